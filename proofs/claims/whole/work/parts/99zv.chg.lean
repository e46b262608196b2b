/-! The public methods: changed -/
theorem x_df_b {A B : Nat → Int32} : ∀ {N : Nat}, N ≤ 16 → ∀ i, zb (x_df A B N) i = (decide (i < N) && decide (¬ A i = B i))
  | 0, _, i => by simp [x_df, zb_0]
  | N + 1, hN, i => by
    have ih := x_df_b (A := A) (B := B) (N := N) (by omega) i
    rw [x_df]
    by_cases h : A N = B N
    · rw [if_pos h, ih]
      by_cases e : i = N
      · subst e; simp [h]
      · by_cases e2 : i < N
        · have : i < N + 1 := by omega
          simp [e2, this]
        · have : ¬ i < N + 1 := by omega
          simp [e2, this]
    · rw [if_neg h, zb_or, ih, zb_sh1 (by omega)]
      by_cases e : i = N
      · subst e; simp [h]
      · by_cases e2 : i < N
        · have : i < N + 1 := by omega
          simp [e, e2, this]
        · have : ¬ i < N + 1 := by omega
          simp [e, e2, this]
theorem x_fd.tr {I I1 I2 : Nat → Nat → Int32} {cd : Nat} (h : x_fd I I1 cd) (h2 : x_fd I1 I2 cd) : x_fd I I2 cd := ⟨fun q a b c d => (h2.1 q a b c d).trans (h.1 q a b c d), fun k a b => (h2.2 k a b).trans (h.2 k a b)⟩
section CHG
variable {l : Launch} {n : Nat} {K L : Nat → Nat} {I I' : Nat → Nat → Int32} {J : Nat → Nat → Int64} {G : Nat → Nat → Value} {M : Nat → Nat → Int32} {c F N : Nat} {tr : Nat → (Int32 → Int32) → Int32} {cd : Nat} {D : Nat → Nat} {ch rr : Nat}
theorem c148_in {X : zX} (hS : SS K L G) (hC : XC G cd) (hj : X.2.1 = 148) (hd : X.2.2.1 = 6) (hm : X.2.2.2.1 = 0) (hs : X.2.2.2.2.1 = 0) (hN : I cd 3 = nI N) (hN12 : N ≤ 12) {k0 d1 d2 w dif : Int32} {f : Nat} {P : Nat → Prop} (hbit : ∀ i, i < N → (dif &&& 1 <<< (nI i &&& 31) = 0 ↔ ¬ P i)) {o : Int32 ⊕ Nat} (ky : ∀ v, o = .inl v → X.2.2.2.2.2.2 (some (.int v)) (n, K, L, I, J, G)) (kn : ∀ s, o = .inr s → ∀ x, zV X 138 [some (.ref 5), some (.int k0), some (.int d1), some (.int d2), some (.int w), some (.int (nI s)), some (.int (nI f)), some (.int dif), x] [] (n, K, L, I, J, G) 0 0) : ∀ (k i seen : Nat), i + k = N → m_sc1 P (fun i => nI f * 12 + nI i) w k i seen = o → zV X 88 [some (.ref 5), some (.int k0), some (.int d1), some (.int d2), some (.int w), some (.int (nI seen)), some (.int (nI f)), some (.int dif), some (.int (nI i))] [] (n, K, L, I, J, G) 0 0 := by
  intro k
  induction k with
  | zero =>
    intro i seen hi ho
    have c1 : nI N ≤ nI i := by rw [show i = N by omega]; exact Int32.le_refl _
    refine zW_ok hj B148_88 88 _ _ _ _ _ b148_88 ?_
    simp only [B148_88, zW, z_wp1, z_ld, z_f0, z_f1, z_f2, z_f3, List.getElem?_cons_zero, List.getElem?_cons_succ, true_and, and_true, Int32.reduceOfInt, z_i10, z_i01, Int32.reduceLT, Int32.reduceLE, Int32.reduceAdd, Int32.reduceSub, z_set, z_set2, z_kil, List.set_cons_zero, List.set_cons_succ, List.take_succ_cons, List.take_zero, List.drop_succ_cons, List.drop_zero, List.reverse_cons, List.reverse_nil, List.nil_append, List.cons_append, List.getD_cons_succ, List.getD_cons_zero, List.getD_nil, List.length_cons, List.length_nil, List.map_cons, List.map_nil, List.sum_cons, List.sum_nil, Nat.reduceAdd, Nat.reduceLeDiff, Value.category, Option.toList, true_or, or_true, z_ua, ↓reduceIte, Nat.reduceEqDiff, eq_self, not_true_eq_false, not_false_eq_true, false_implies, true_implies, Classical.not_not, Nat.le_refl, Nat.zero_le, sK5 hS, sG5_1 hS, sK10 hS]
    try dsimp only
    refine z_callD (c90 (n := n) (I := I) (J := J) hS hC) (by omega) (by omega) (by omega) (Nat.le_of_ble_eq_true rfl) ?_
    try simp only [zW, z_wp1, z_ld, z_f0, z_f1, z_f2, z_f3, List.getElem?_cons_zero, List.getElem?_cons_succ, true_and, and_true, Int32.reduceOfInt, z_i10, z_i01, Int32.reduceLT, Int32.reduceLE, Int32.reduceAdd, Int32.reduceSub, z_set, z_set2, z_kil, List.set_cons_zero, List.set_cons_succ, List.take_succ_cons, List.take_zero, List.drop_succ_cons, List.drop_zero, List.reverse_cons, List.reverse_nil, List.nil_append, List.cons_append, List.getD_cons_succ, List.getD_cons_zero, List.getD_nil, List.length_cons, List.length_nil, List.map_cons, List.map_nil, List.sum_cons, List.sum_nil, Nat.reduceAdd, Nat.reduceLeDiff, Value.category, Option.toList, true_or, or_true, z_ua, ↓reduceIte, Nat.reduceEqDiff, eq_self, not_true_eq_false, not_false_eq_true, false_implies, true_implies, Classical.not_not, Nat.le_refl, Nat.zero_le, hN, c1]
    try dsimp only
    exact kn seen ho.symm _
  | succ k ih =>
    intro i seen hi ho
    have c1 : ¬ nI N ≤ nI i := nI_ge (by omega) (by omega)
    rw [m_sc1] at ho
    have go : ∀ seen' : Nat, m_sc1 P (fun i => nI f * 12 + nI i) w k (i + 1) seen' = o → zV X 132 [some (.ref 5), some (.int k0), some (.int d1), some (.int d2), some (.int w), some (.int (nI seen')), some (.int (nI f)), some (.int dif), some (.int (nI i))] [] (n, K, L, I, J, G) 0 0 := by
      intro seen' h'
      refine zW_ok hj B148_132 132 _ _ _ _ _ b148_132 ?_
      simp only [B148_132, zW, z_wp1, z_ld, z_f0, z_f1, z_f2, z_f3, List.getElem?_cons_zero, List.getElem?_cons_succ, true_and, and_true, Int32.reduceOfInt, z_i10, z_i01, Int32.reduceLT, Int32.reduceLE, Int32.reduceAdd, Int32.reduceSub, z_set, z_set2, z_kil, List.set_cons_zero, List.set_cons_succ, List.take_succ_cons, List.take_zero, List.drop_succ_cons, List.drop_zero, List.reverse_cons, List.reverse_nil, List.nil_append, List.cons_append, List.getD_cons_succ, List.getD_cons_zero, List.getD_nil, List.length_cons, List.length_nil, List.map_cons, List.map_nil, List.sum_cons, List.sum_nil, Nat.reduceAdd, Nat.reduceLeDiff, Value.category, Option.toList, true_or, or_true, z_ua, ↓reduceIte, Nat.reduceEqDiff, eq_self, not_true_eq_false, not_false_eq_true, false_implies, true_implies, Classical.not_not, Nat.le_refl, Nat.zero_le]
      try dsimp only
      rw [show nI i + 1 = nI (i + 1) from nI_add i 1]
      exact ih (i + 1) seen' (by omega) h'
    refine zW_ok hj B148_88 88 _ _ _ _ _ b148_88 ?_
    simp only [B148_88, zW, z_wp1, z_ld, z_f0, z_f1, z_f2, z_f3, List.getElem?_cons_zero, List.getElem?_cons_succ, true_and, and_true, Int32.reduceOfInt, z_i10, z_i01, Int32.reduceLT, Int32.reduceLE, Int32.reduceAdd, Int32.reduceSub, z_set, z_set2, z_kil, List.set_cons_zero, List.set_cons_succ, List.take_succ_cons, List.take_zero, List.drop_succ_cons, List.drop_zero, List.reverse_cons, List.reverse_nil, List.nil_append, List.cons_append, List.getD_cons_succ, List.getD_cons_zero, List.getD_nil, List.length_cons, List.length_nil, List.map_cons, List.map_nil, List.sum_cons, List.sum_nil, Nat.reduceAdd, Nat.reduceLeDiff, Value.category, Option.toList, true_or, or_true, z_ua, ↓reduceIte, Nat.reduceEqDiff, eq_self, not_true_eq_false, not_false_eq_true, false_implies, true_implies, Classical.not_not, Nat.le_refl, Nat.zero_le, sK5 hS, sG5_1 hS, sK10 hS]
    try dsimp only
    refine z_callD (c90 (n := n) (I := I) (J := J) hS hC) (by omega) (by omega) (by omega) (Nat.le_of_ble_eq_true rfl) ?_
    try simp only [zW, z_wp1, z_ld, z_f0, z_f1, z_f2, z_f3, List.getElem?_cons_zero, List.getElem?_cons_succ, true_and, and_true, Int32.reduceOfInt, z_i10, z_i01, Int32.reduceLT, Int32.reduceLE, Int32.reduceAdd, Int32.reduceSub, z_set, z_set2, z_kil, List.set_cons_zero, List.set_cons_succ, List.take_succ_cons, List.take_zero, List.drop_succ_cons, List.drop_zero, List.reverse_cons, List.reverse_nil, List.nil_append, List.cons_append, List.getD_cons_succ, List.getD_cons_zero, List.getD_nil, List.length_cons, List.length_nil, List.map_cons, List.map_nil, List.sum_cons, List.sum_nil, Nat.reduceAdd, Nat.reduceLeDiff, Value.category, Option.toList, true_or, or_true, z_ua, ↓reduceIte, Nat.reduceEqDiff, eq_self, not_true_eq_false, not_false_eq_true, false_implies, true_implies, Classical.not_not, Nat.le_refl, Nat.zero_le, hN, c1]
    try dsimp only
    refine ⟨fun h1 => ?_, fun h1 => ?_⟩
    · rw [if_neg ((hbit i (by omega)).mp h1)] at ho
      exact go seen ho
    have hP : P i := Classical.not_not.mp (fun q => h1 ((hbit i (by omega)).mpr q))
    rw [if_pos hP] at ho
    refine ⟨fun h4 => ?_, fun h4 => ?_⟩
    · rw [if_neg h4] at ho
      refine zW_ok hj B148_129 129 _ _ _ _ _ b148_129 ?_
      simp only [B148_129, zW, z_wp1, z_ld, z_f0, z_f1, z_f2, z_f3, List.getElem?_cons_zero, List.getElem?_cons_succ, true_and, and_true, Int32.reduceOfInt, z_i10, z_i01, Int32.reduceLT, Int32.reduceLE, Int32.reduceAdd, Int32.reduceSub, z_set, z_set2, z_kil, List.set_cons_zero, List.set_cons_succ, List.take_succ_cons, List.take_zero, List.drop_succ_cons, List.drop_zero, List.reverse_cons, List.reverse_nil, List.nil_append, List.cons_append, List.getD_cons_succ, List.getD_cons_zero, List.getD_nil, List.length_cons, List.length_nil, List.map_cons, List.map_nil, List.sum_cons, List.sum_nil, Nat.reduceAdd, Nat.reduceLeDiff, Value.category, Option.toList, true_or, or_true, z_ua, ↓reduceIte, Nat.reduceEqDiff, eq_self, not_true_eq_false, not_false_eq_true, false_implies, true_implies, Classical.not_not, Nat.le_refl, Nat.zero_le]
      try dsimp only
      rw [show nI seen + 1 = nI (seen + 1) from nI_add seen 1]
      exact go (seen + 1) ho
    · rw [if_pos h4] at ho
      exact ky _ ho.symm
theorem c148_out {X : zX} (hS : SS K L G) (hC : XC G cd) (hj : X.2.1 = 148) (hd : X.2.2.1 = 6) (hm : X.2.2.2.1 = 0) (hs : X.2.2.2.2.1 = 0) (hF : I 10 0 = nI F) (hF16 : F ≤ 16) (hsc : x_scale I cd N tr) {k0 d1 d2 w v : Int32} (hk0 : k0 = 0 ∨ k0 = 1 ∨ k0 = 2) (l1 : l_kv I M c 69 d1) (l2 : l_kv I M c 70 d2) (hQ : ∀ I', x_fd I I' cd → X.2.2.2.2.2.2 (some (.int v)) (n, K, L, I', J, G)) : ∀ (k f seen : Nat) (I' : Nat → Nat → Int32) (x7 x8 : Option Value), f + k = F → x_fd I I' cd → m_sc2 (m_chg M c tr k0 d1 d2) (fun f i => 12 * nI f + nI i) w N k f seen = v → zV X 53 [some (.ref 5), some (.int k0), some (.int d1), some (.int d2), some (.int w), some (.int (nI seen)), some (.int (nI f)), x7, x8] [] (n, K, L, I', J, G) 0 0 := by
  intro k
  induction k with
  | zero =>
    intro f seen I' x7 x8 hf hI hv
    have hcd : cd = 12 ∨ cd = 65 := hC.1
    have f1 : I' 10 0 = nI F := by rw [hI.1 10 (by omega) (by omega) (by omega) (by omega)]; exact hF
    have c1 : nI F ≤ nI f := by rw [show f = F by omega]; exact Int32.le_refl _
    rw [m_sc2] at hv
    refine zW_ok hj B148_53 53 _ _ _ _ _ b148_53 ?_
    simp only [B148_53, zW, z_wp1, z_ld, z_f0, z_f1, z_f2, z_f3, List.getElem?_cons_zero, List.getElem?_cons_succ, true_and, and_true, Int32.reduceOfInt, z_i10, z_i01, Int32.reduceLT, Int32.reduceLE, Int32.reduceAdd, Int32.reduceSub, z_set, z_set2, z_kil, List.set_cons_zero, List.set_cons_succ, List.take_succ_cons, List.take_zero, List.drop_succ_cons, List.drop_zero, List.reverse_cons, List.reverse_nil, List.nil_append, List.cons_append, List.getD_cons_succ, List.getD_cons_zero, List.getD_nil, List.length_cons, List.length_nil, List.map_cons, List.map_nil, List.sum_cons, List.sum_nil, Nat.reduceAdd, Nat.reduceLeDiff, Value.category, Option.toList, true_or, or_true, z_ua, ↓reduceIte, Nat.reduceEqDiff, eq_self, not_true_eq_false, not_false_eq_true, false_implies, true_implies, Classical.not_not, Nat.le_refl, Nat.zero_le, sK5 hS, sG5_1 hS, sK10 hS, sK10 hS, f1, c1]
    try dsimp only
    refine zW_ok hj B148_144 144 _ _ _ _ _ b148_144 ?_
    simp only [B148_144, zW, z_wp1, z_ld, z_f0, z_f1, z_f2, z_f3, List.getElem?_cons_zero, List.getElem?_cons_succ, true_and, and_true, Int32.reduceOfInt, z_i10, z_i01, Int32.reduceLT, Int32.reduceLE, Int32.reduceAdd, Int32.reduceSub, z_set, z_set2, z_kil, List.set_cons_zero, List.set_cons_succ, List.take_succ_cons, List.take_zero, List.drop_succ_cons, List.drop_zero, List.reverse_cons, List.reverse_nil, List.nil_append, List.cons_append, List.getD_cons_succ, List.getD_cons_zero, List.getD_nil, List.length_cons, List.length_nil, List.map_cons, List.map_nil, List.sum_cons, List.sum_nil, Nat.reduceAdd, Nat.reduceLeDiff, Value.category, Option.toList, true_or, or_true, z_ua, ↓reduceIte, Nat.reduceEqDiff, eq_self, not_true_eq_false, not_false_eq_true, false_implies, true_implies, Classical.not_not, Nat.le_refl, Nat.zero_le]
    try dsimp only
    refine ⟨fun h1 => ?_, fun h1 => ?_⟩
    · refine zW_ok hj B148_154 154 _ _ _ _ _ b148_154 ?_
      simp only [B148_154, zW, z_wp1, z_ld, z_f0, z_f1, z_f2, z_f3, List.getElem?_cons_zero, List.getElem?_cons_succ, true_and, and_true, Int32.reduceOfInt, z_i10, z_i01, Int32.reduceLT, Int32.reduceLE, Int32.reduceAdd, Int32.reduceSub, z_set, z_set2, z_kil, List.set_cons_zero, List.set_cons_succ, List.take_succ_cons, List.take_zero, List.drop_succ_cons, List.drop_zero, List.reverse_cons, List.reverse_nil, List.nil_append, List.cons_append, List.getD_cons_succ, List.getD_cons_zero, List.getD_nil, List.length_cons, List.length_nil, List.map_cons, List.map_nil, List.sum_cons, List.sum_nil, Nat.reduceAdd, Nat.reduceLeDiff, Value.category, Option.toList, true_or, or_true, z_ua, ↓reduceIte, Nat.reduceEqDiff, eq_self, not_true_eq_false, not_false_eq_true, false_implies, true_implies, Classical.not_not, Nat.le_refl, Nat.zero_le]
      try dsimp only
      refine zW_ok hj B148_155 155 _ _ _ _ _ b148_155 ?_
      simp only [B148_155, zW, z_wp1, z_ld, z_f0, z_f1, z_f2, z_f3, List.getElem?_cons_zero, List.getElem?_cons_succ, true_and, and_true, Int32.reduceOfInt, z_i10, z_i01, Int32.reduceLT, Int32.reduceLE, Int32.reduceAdd, Int32.reduceSub, z_set, z_set2, z_kil, List.set_cons_zero, List.set_cons_succ, List.take_succ_cons, List.take_zero, List.drop_succ_cons, List.drop_zero, List.reverse_cons, List.reverse_nil, List.nil_append, List.cons_append, List.getD_cons_succ, List.getD_cons_zero, List.getD_nil, List.length_cons, List.length_nil, List.map_cons, List.map_nil, List.sum_cons, List.sum_nil, Nat.reduceAdd, Nat.reduceLeDiff, Value.category, Option.toList, true_or, or_true, z_ua, ↓reduceIte, Nat.reduceEqDiff, eq_self, not_true_eq_false, not_false_eq_true, false_implies, true_implies, Classical.not_not, Nat.le_refl, Nat.zero_le]
      try dsimp only
      rw [if_neg h1] at hv
      rw [hv]
      exact hQ I' hI
    · refine zW_ok hj B148_155 155 _ _ _ _ _ b148_155 ?_
      simp only [B148_155, zW, z_wp1, z_ld, z_f0, z_f1, z_f2, z_f3, List.getElem?_cons_zero, List.getElem?_cons_succ, true_and, and_true, Int32.reduceOfInt, z_i10, z_i01, Int32.reduceLT, Int32.reduceLE, Int32.reduceAdd, Int32.reduceSub, z_set, z_set2, z_kil, List.set_cons_zero, List.set_cons_succ, List.take_succ_cons, List.take_zero, List.drop_succ_cons, List.drop_zero, List.reverse_cons, List.reverse_nil, List.nil_append, List.cons_append, List.getD_cons_succ, List.getD_cons_zero, List.getD_nil, List.length_cons, List.length_nil, List.map_cons, List.map_nil, List.sum_cons, List.sum_nil, Nat.reduceAdd, Nat.reduceLeDiff, Value.category, Option.toList, true_or, or_true, z_ua, ↓reduceIte, Nat.reduceEqDiff, eq_self, not_true_eq_false, not_false_eq_true, false_implies, true_implies, Classical.not_not, Nat.le_refl, Nat.zero_le]
      try dsimp only
      rw [if_pos h1] at hv
      rw [hv]
      exact hQ I' hI
  | succ k ih =>
    intro f seen I' x7 x8 hf hI hv
    have hcd : cd = 12 ∨ cd = 65 := hC.1
    have f1 : I' 10 0 = nI F := by rw [hI.1 10 (by omega) (by omega) (by omega) (by omega)]; exact hF
    have c1 : ¬ nI F ≤ nI f := nI_ge (by omega) (by omega)
    have hsc' : x_scale I' cd N tr := hsc.congr (hI.2 3 (by decide) (by decide)) (hI.1 _ (by omega) (by omega) (by omega) (by omega)) (hI.1 _ (by omega) (by omega) (by omega) (by omega))
    have e69 : I' 69 = I 69 := hI.1 69 (by omega) (by omega) (by omega) (by omega)
    have e70 : I' 70 = I 70 := hI.1 70 (by omega) (by omega) (by omega) (by omega)
    rw [m_sc2] at hv
    refine zW_ok hj B148_53 53 _ _ _ _ _ b148_53 ?_
    simp only [B148_53, zW, z_wp1, z_ld, z_f0, z_f1, z_f2, z_f3, List.getElem?_cons_zero, List.getElem?_cons_succ, true_and, and_true, Int32.reduceOfInt, z_i10, z_i01, Int32.reduceLT, Int32.reduceLE, Int32.reduceAdd, Int32.reduceSub, z_set, z_set2, z_kil, List.set_cons_zero, List.set_cons_succ, List.take_succ_cons, List.take_zero, List.drop_succ_cons, List.drop_zero, List.reverse_cons, List.reverse_nil, List.nil_append, List.cons_append, List.getD_cons_succ, List.getD_cons_zero, List.getD_nil, List.length_cons, List.length_nil, List.map_cons, List.map_nil, List.sum_cons, List.sum_nil, Nat.reduceAdd, Nat.reduceLeDiff, Value.category, Option.toList, true_or, or_true, z_ua, ↓reduceIte, Nat.reduceEqDiff, eq_self, not_true_eq_false, not_false_eq_true, false_implies, true_implies, Classical.not_not, Nat.le_refl, Nat.zero_le, sK5 hS, sG5_1 hS, sK10 hS, sK10 hS, f1, c1, sG5_10 hS, sK69 hS, sL69 hS, sG5_11 hS, sK70 hS, sL70 hS]
    try dsimp only
    refine z_callQ (c102 (l := X.1) (n := n) (J := J) (I := I') hS hC hsc' (q1 := 69) (q2 := 70) (sK69 hS) (sL69 hS) (by decide) (sK70 hS) (sL70 hS) (by decide) (by decide) k0 (f := f) (by omega)) (by omega) (by omega) (by omega) (Nat.le_of_ble_eq_true rfl) ?_
    rintro r h' ⟨rfl, I2, rfl, fd⟩
    have hI2 := hI.tr fd
    simp only [zW, z_wp1, z_ld, z_f0, z_f1, z_f2, z_f3, List.getElem?_cons_zero, List.getElem?_cons_succ, true_and, and_true, Int32.reduceOfInt, z_i10, z_i01, Int32.reduceLT, Int32.reduceLE, Int32.reduceAdd, Int32.reduceSub, z_set, z_set2, z_kil, List.set_cons_zero, List.set_cons_succ, List.take_succ_cons, List.take_zero, List.drop_succ_cons, List.drop_zero, List.reverse_cons, List.reverse_nil, List.nil_append, List.cons_append, List.getD_cons_succ, List.getD_cons_zero, List.getD_nil, List.length_cons, List.length_nil, List.map_cons, List.map_nil, List.sum_cons, List.sum_nil, Nat.reduceAdd, Nat.reduceLeDiff, Value.category, Option.toList, true_or, or_true, z_ua, ↓reduceIte, Nat.reduceEqDiff, eq_self, not_true_eq_false, not_false_eq_true, false_implies, true_implies, Classical.not_not, Nat.le_refl, Nat.zero_le]
    try dsimp only
    have hsc2 : x_scale I2 cd N tr := hsc.congr (hI2.2 3 (by decide) (by decide)) (hI2.1 _ (by omega) (by omega) (by omega) (by omega)) (hI2.1 _ (by omega) (by omega) (by omega) (by omega))
    have hval : (fun i => nI f * 12 + nI i) = (fun i => (12 : Int32) * nI f + nI i) := by funext i; rw [Int32.mul_comm]
    refine (c148_in (I := I2) (P := m_chg M c tr k0 d1 d2 f) (f := f) (k0 := k0) (d1 := d1) (d2 := d2) (dif := x_df (fun i => tr i (x_me (I' 69) k0 f)) (fun i => tr i (x_me (I' 70) k0 f)) N) hS hC hj hd hm hs hsc2.1 hsc2.2.1 (fun i hi => ?_) (o := m_sc1 (m_chg M c tr k0 d1 d2 f) (fun i => 12 * nI f + nI i) w N 0 seen) (fun u hu => ?_) (fun s hsn x => ?_) N 0 seen (by omega) (by rw [hval])).weak (by simp only [z_le]; simp [nI_0])
    · have hN12 := hsc.2.1
      rw [zb_tst (by omega), x_df_b (by omega), e69, e70, l_tr hsc l1 hk0 (by omega) hi, l_tr hsc l2 hk0 (by omega) hi]
      unfold m_chg
      simp [hi]
    · rw [hu] at hv
      rw [← hv] at hQ
      exact hQ I2 hI2
    · rw [hsn] at hv
      refine zW_ok hj B148_138 138 _ _ _ _ _ b148_138 ?_
      simp only [B148_138, zW, z_wp1, z_ld, z_f0, z_f1, z_f2, z_f3, List.getElem?_cons_zero, List.getElem?_cons_succ, true_and, and_true, Int32.reduceOfInt, z_i10, z_i01, Int32.reduceLT, Int32.reduceLE, Int32.reduceAdd, Int32.reduceSub, z_set, z_set2, z_kil, List.set_cons_zero, List.set_cons_succ, List.take_succ_cons, List.take_zero, List.drop_succ_cons, List.drop_zero, List.reverse_cons, List.reverse_nil, List.nil_append, List.cons_append, List.getD_cons_succ, List.getD_cons_zero, List.getD_nil, List.length_cons, List.length_nil, List.map_cons, List.map_nil, List.sum_cons, List.sum_nil, Nat.reduceAdd, Nat.reduceLeDiff, Value.category, Option.toList, true_or, or_true, z_ua, ↓reduceIte, Nat.reduceEqDiff, eq_self, not_true_eq_false, not_false_eq_true, false_implies, true_implies, Classical.not_not, Nat.le_refl, Nat.zero_le]
      try dsimp only
      rw [show nI f + 1 = nI (f + 1) from nI_add f 1]
      exact ih (f + 1) s I2 _ _ (by omega) hI2 hv
/-- changed -/
theorem d148a (hx : XI n K L I J G M c F N tr cd D ch rr) (hr : rr < 600) {k0 d1 d2 w : Int32} (h1 : 0 ≤ k0 ∧ k0 ≤ 2) (h2 : 0 ≤ d1 ∧ d1 ≤ 999) (h3 : 0 ≤ d2 ∧ d2 ≤ 999) : z_Ctr l 6 148 [.ref 5, .int k0, .int d1, .int d2, .int w] (n, K, L, I, J, G) 0 0 (x_po n I J M c F N tr (rr + 1) (x_u L D) (.int (m_sc2 (m_chg M c tr k0 d1 d2) (fun f i => 12 * nI f + nI i) w N F 0 0))) := by
  have hS : SS K L G := hx.S
  have hcd : cd = 12 ∨ cd = 65 := hx.1.2.1.1
  have hled := hx.2.2.1
  obtain ⟨f1, f2, f3, f4⟩ := hx.fn
  have hk3 : k0 = 0 ∨ k0 = 1 ∨ k0 = 2 := by
    obtain ⟨m, hm, e⟩ := nI_of (x := k0) (Int32.not_lt.mpr h1.1)
    have h2 := h1.2
    rw [e] at h2
    have := (nI_leI (a := m) (b := 2) hm (by omega)).mp h2
    have : m = 0 ∨ m = 1 ∨ m = 2 := by omega
    rcases this with rfl | rfl | rfl
    · exact Or.inl e
    · exact Or.inr (Or.inl e)
    · exact Or.inr (Or.inr e)
  have hsl : ∀ t, t < c → ∃ s, s < 192 ∧ I 7 t = nI s := fun t ht => by
    obtain ⟨k, f, m, x1, x2, x3, -, -, -, e, -⟩ := hled.2.1 t ht
    exact ⟨_, by omega, e⟩
  refine z_ctr (by decide) (by decide +kernel) (Nat.le_of_ble_eq_true rfl) (by decide +kernel) (fun X hl hj hd hm hs hsc hQ => ?_)
  show zV X 0 [some (.ref 5), some (.int k0), some (.int d1), some (.int d2), some (.int w), none, none, none, none] [] _ 0 0
  subst hl
  refine zW_ok hj B148_0 0 _ _ _ _ _ b148_0 ?_
  simp only [B148_0, zW, z_wp1, z_ld, z_f0, z_f1, z_f2, z_f3, List.getElem?_cons_zero, List.getElem?_cons_succ, true_and, and_true, Int32.reduceOfInt, z_i10, z_i01, Int32.reduceLT, Int32.reduceLE, Int32.reduceAdd, Int32.reduceSub, z_set, z_set2, z_kil, List.set_cons_zero, List.set_cons_succ, List.take_succ_cons, List.take_zero, List.drop_succ_cons, List.drop_zero, List.reverse_cons, List.reverse_nil, List.nil_append, List.cons_append, List.getD_cons_succ, List.getD_cons_zero, List.getD_nil, List.length_cons, List.length_nil, List.map_cons, List.map_nil, List.sum_cons, List.sum_nil, Nat.reduceAdd, Nat.reduceLeDiff, Value.category, Option.toList, true_or, or_true, z_ua, ↓reduceIte, Nat.reduceEqDiff, eq_self, not_true_eq_false, not_false_eq_true, false_implies, true_implies, Classical.not_not, Nat.le_refl, Nat.zero_le]
  try dsimp only
  refine z_callD (c154 (h := (n, K, L, I, J, G)) k0) (by omega) (by omega) (by omega) (Nat.le_of_ble_eq_true rfl) ?_
  try simp only [zW, z_wp1, z_ld, z_f0, z_f1, z_f2, z_f3, List.getElem?_cons_zero, List.getElem?_cons_succ, true_and, and_true, Int32.reduceOfInt, z_i10, z_i01, Int32.reduceLT, Int32.reduceLE, Int32.reduceAdd, Int32.reduceSub, z_set, z_set2, z_kil, List.set_cons_zero, List.set_cons_succ, List.take_succ_cons, List.take_zero, List.drop_succ_cons, List.drop_zero, List.reverse_cons, List.reverse_nil, List.nil_append, List.cons_append, List.getD_cons_succ, List.getD_cons_zero, List.getD_nil, List.length_cons, List.length_nil, List.map_cons, List.map_nil, List.sum_cons, List.sum_nil, Nat.reduceAdd, Nat.reduceLeDiff, Value.category, Option.toList, true_or, or_true, z_ua, ↓reduceIte, Nat.reduceEqDiff, eq_self, not_true_eq_false, not_false_eq_true, false_implies, true_implies, Classical.not_not, Nat.le_refl, Nat.zero_le, z_b1 h1]
  try dsimp only
  refine z_callD (c153 (h := (n, K, L, I, J, G)) d1) (by omega) (by omega) (by omega) (Nat.le_of_ble_eq_true rfl) ?_
  try simp only [zW, z_wp1, z_ld, z_f0, z_f1, z_f2, z_f3, List.getElem?_cons_zero, List.getElem?_cons_succ, true_and, and_true, Int32.reduceOfInt, z_i10, z_i01, Int32.reduceLT, Int32.reduceLE, Int32.reduceAdd, Int32.reduceSub, z_set, z_set2, z_kil, List.set_cons_zero, List.set_cons_succ, List.take_succ_cons, List.take_zero, List.drop_succ_cons, List.drop_zero, List.reverse_cons, List.reverse_nil, List.nil_append, List.cons_append, List.getD_cons_succ, List.getD_cons_zero, List.getD_nil, List.length_cons, List.length_nil, List.map_cons, List.map_nil, List.sum_cons, List.sum_nil, Nat.reduceAdd, Nat.reduceLeDiff, Value.category, Option.toList, true_or, or_true, z_ua, ↓reduceIte, Nat.reduceEqDiff, eq_self, not_true_eq_false, not_false_eq_true, false_implies, true_implies, Classical.not_not, Nat.le_refl, Nat.zero_le, z_b1 h2]
  try dsimp only
  refine z_callD (c153 (h := (n, K, L, I, J, G)) d2) (by omega) (by omega) (by omega) (Nat.le_of_ble_eq_true rfl) ?_
  try simp only [zW, z_wp1, z_ld, z_f0, z_f1, z_f2, z_f3, List.getElem?_cons_zero, List.getElem?_cons_succ, true_and, and_true, Int32.reduceOfInt, z_i10, z_i01, Int32.reduceLT, Int32.reduceLE, Int32.reduceAdd, Int32.reduceSub, z_set, z_set2, z_kil, List.set_cons_zero, List.set_cons_succ, List.take_succ_cons, List.take_zero, List.drop_succ_cons, List.drop_zero, List.reverse_cons, List.reverse_nil, List.nil_append, List.cons_append, List.getD_cons_succ, List.getD_cons_zero, List.getD_nil, List.length_cons, List.length_nil, List.map_cons, List.map_nil, List.sum_cons, List.sum_nil, Nat.reduceAdd, Nat.reduceLeDiff, Value.category, Option.toList, true_or, or_true, z_ua, ↓reduceIte, Nat.reduceEqDiff, eq_self, not_true_eq_false, not_false_eq_true, false_implies, true_implies, Classical.not_not, Nat.le_refl, Nat.zero_le, z_b1 h3]
  try dsimp only
  refine zW_ok hj B148_23 23 _ _ _ _ _ b148_23 ?_
  simp only [B148_23, zW, z_wp1, z_ld, z_f0, z_f1, z_f2, z_f3, List.getElem?_cons_zero, List.getElem?_cons_succ, true_and, and_true, Int32.reduceOfInt, z_i10, z_i01, Int32.reduceLT, Int32.reduceLE, Int32.reduceAdd, Int32.reduceSub, z_set, z_set2, z_kil, List.set_cons_zero, List.set_cons_succ, List.take_succ_cons, List.take_zero, List.drop_succ_cons, List.drop_zero, List.reverse_cons, List.reverse_nil, List.nil_append, List.cons_append, List.getD_cons_succ, List.getD_cons_zero, List.getD_nil, List.length_cons, List.length_nil, List.map_cons, List.map_nil, List.sum_cons, List.sum_nil, Nat.reduceAdd, Nat.reduceLeDiff, Value.category, Option.toList, true_or, or_true, z_ua, ↓reduceIte, Nat.reduceEqDiff, eq_self, not_true_eq_false, not_false_eq_true, false_implies, true_implies, Classical.not_not, Nat.le_refl, Nat.zero_le, sK5 hS, sG5_0 hS, sK6 hS, sG5_10 hS, sK69 hS, sL69 hS]
  try dsimp only
  refine z_callQ (c46 (l := X.1) (n := n) (J := J) hS (p := 69) (day := d1) (by omega) hled.1 hx.2.1.1.2.1 hsl) (by omega) (by omega) (by omega) (Nat.le_of_ble_eq_true rfl) ?_
  rintro r h' ⟨rfl, I1, rfl, o1, v1⟩
  simp only [zW, z_wp1, z_ld, z_f0, z_f1, z_f2, z_f3, List.getElem?_cons_zero, List.getElem?_cons_succ, true_and, and_true, Int32.reduceOfInt, z_i10, z_i01, Int32.reduceLT, Int32.reduceLE, Int32.reduceAdd, Int32.reduceSub, z_set, z_set2, z_kil, List.set_cons_zero, List.set_cons_succ, List.take_succ_cons, List.take_zero, List.drop_succ_cons, List.drop_zero, List.reverse_cons, List.reverse_nil, List.nil_append, List.cons_append, List.getD_cons_succ, List.getD_cons_zero, List.getD_nil, List.length_cons, List.length_nil, List.map_cons, List.map_nil, List.sum_cons, List.sum_nil, Nat.reduceAdd, Nat.reduceLeDiff, Value.category, Option.toList, true_or, or_true, z_ua, ↓reduceIte, Nat.reduceEqDiff, eq_self, not_true_eq_false, not_false_eq_true, false_implies, true_implies, Classical.not_not, Nat.le_refl, Nat.zero_le, sK5 hS, sG5_0 hS, sK6 hS, sG5_11 hS, sK70 hS, sL70 hS]
  try dsimp only
  have e6 : I1 6 = I 6 := o1 6 (by omega)
  have e7 : I1 7 = I 7 := o1 7 (by omega)
  refine z_callQ (c46 (l := X.1) (n := n) (I := I1) (c := c) (J := J) hS (p := 70) (day := d2) (by omega) (by rw [e6]; exact hled.1) hx.2.1.1.2.1 (by rw [e7]; exact hsl)) (by omega) (by omega) (by omega) (Nat.le_of_ble_eq_true rfl) ?_
  rintro r h' ⟨rfl, I2, rfl, o2, v2⟩
  rw [o1 7 (by omega), o1 8 (by omega), o1 9 (by omega)] at v2
  simp only [zW, z_wp1, z_ld, z_f0, z_f1, z_f2, z_f3, List.getElem?_cons_zero, List.getElem?_cons_succ, true_and, and_true, Int32.reduceOfInt, z_i10, z_i01, Int32.reduceLT, Int32.reduceLE, Int32.reduceAdd, Int32.reduceSub, z_set, z_set2, z_kil, List.set_cons_zero, List.set_cons_succ, List.take_succ_cons, List.take_zero, List.drop_succ_cons, List.drop_zero, List.reverse_cons, List.reverse_nil, List.nil_append, List.cons_append, List.getD_cons_succ, List.getD_cons_zero, List.getD_nil, List.length_cons, List.length_nil, List.map_cons, List.map_nil, List.sum_cons, List.sum_nil, Nat.reduceAdd, Nat.reduceLeDiff, Value.category, Option.toList, true_or, or_true, z_ua, ↓reduceIte, Nat.reduceEqDiff, eq_self, not_true_eq_false, not_false_eq_true, false_implies, true_implies, Classical.not_not, Nat.le_refl, Nat.zero_le]
  try dsimp only
  have o3 : ∀ q, q ≠ 69 → q ≠ 70 → I2 q = I q := fun q a b => by rw [o2 q b, o1 q a]
  have hx2 : XI n K L I2 J G M c F N tr cd D ch rr := hx.sk (fun q _ _ h h' _ _ => o3 q h h') (by rw [o3 cd (by omega) (by omega)])
  have l1 : l_kv I2 M c 69 d1 := l_kv_of hled.2 (fun s hs => by rw [o2 69 (by omega)]; exact v1 s hs)
  have l2 : l_kv I2 M c 70 d2 := l_kv_of hled.2 v2
  exact (c148_out (I := I2) (M := M) (c := c) hS hx.C hj hd hm hs hx2.fn.1 f2 hx2.2.2.2.1.2.2.2.2.2.1 hk3 l1 l2 (fun I3 fd => hQ _ _ (x_po.same hx hr (hx2.sk (fun q a b _ _ e f => fd.1 q a b e f) (fd.2 3 (by decide) (by decide))) (fun q a _ => by rw [fd.1 q (by omega) (by omega) (by omega) (by omega), o3 q (by omega) (by omega)]) _)) F 0 0 I2 none none (by omega) ⟨fun _ _ _ _ _ => rfl, fun _ _ _ => rfl⟩ rfl).weak (by simp only [z_le]; simp [nI_0])
theorem d148b (hx : XI n K L I J G M c F N tr cd D ch rr) (hr : rr < 600) {k0 d1 d2 w : Int32} (h : ¬ ((0 ≤ k0 ∧ k0 ≤ 2) ∧ (0 ≤ d1 ∧ d1 ≤ 999) ∧ (0 ≤ d2 ∧ d2 ≤ 999))) : z_Ctr l 6 148 [.ref 5, .int k0, .int d1, .int d2, .int w] (n, K, L, I, J, G) 0 0 (x_po n I J M c F N tr (rr + 1) (x_u L D) (.int (-1))) := by
  have hS : SS K L G := hx.S
  refine z_ctr (by decide) (by decide +kernel) (Nat.le_of_ble_eq_true rfl) (by decide +kernel) (fun X hl hj hd hm hs hsc hQ => ?_)
  show zV X 0 [some (.ref 5), some (.int k0), some (.int d1), some (.int d2), some (.int w), none, none, none, none] [] _ 0 0
  have no : zV X 21 [some (.ref 5), some (.int k0), some (.int d1), some (.int d2), some (.int w), none, none, none, none] [] (n, K, L, I, J, G) 0 0 := by
    refine zW_ok hj B148_21 21 _ _ _ _ _ b148_21 ?_
    simp only [B148_21, zW, z_wp1, z_ld, z_f0, z_f1, z_f2, z_f3, List.getElem?_cons_zero, List.getElem?_cons_succ, true_and, and_true, Int32.reduceOfInt, z_i10, z_i01, Int32.reduceLT, Int32.reduceLE, Int32.reduceAdd, Int32.reduceSub, z_set, z_set2, z_kil, List.set_cons_zero, List.set_cons_succ, List.take_succ_cons, List.take_zero, List.drop_succ_cons, List.drop_zero, List.reverse_cons, List.reverse_nil, List.nil_append, List.cons_append, List.getD_cons_succ, List.getD_cons_zero, List.getD_nil, List.length_cons, List.length_nil, List.map_cons, List.map_nil, List.sum_cons, List.sum_nil, Nat.reduceAdd, Nat.reduceLeDiff, Value.category, Option.toList, true_or, or_true, z_ua, ↓reduceIte, Nat.reduceEqDiff, eq_self, not_true_eq_false, not_false_eq_true, false_implies, true_implies, Classical.not_not, Nat.le_refl, Nat.zero_le]
    try dsimp only
    exact hQ _ _ (x_po.id hx hr _)
  refine zW_ok hj B148_0 0 _ _ _ _ _ b148_0 ?_
  simp only [B148_0, zW, z_wp1, z_ld, z_f0, z_f1, z_f2, z_f3, List.getElem?_cons_zero, List.getElem?_cons_succ, true_and, and_true, Int32.reduceOfInt, z_i10, z_i01, Int32.reduceLT, Int32.reduceLE, Int32.reduceAdd, Int32.reduceSub, z_set, z_set2, z_kil, List.set_cons_zero, List.set_cons_succ, List.take_succ_cons, List.take_zero, List.drop_succ_cons, List.drop_zero, List.reverse_cons, List.reverse_nil, List.nil_append, List.cons_append, List.getD_cons_succ, List.getD_cons_zero, List.getD_nil, List.length_cons, List.length_nil, List.map_cons, List.map_nil, List.sum_cons, List.sum_nil, Nat.reduceAdd, Nat.reduceLeDiff, Value.category, Option.toList, true_or, or_true, z_ua, ↓reduceIte, Nat.reduceEqDiff, eq_self, not_true_eq_false, not_false_eq_true, false_implies, true_implies, Classical.not_not, Nat.le_refl, Nat.zero_le]
  try dsimp only
  by_cases h1 : 0 ≤ k0 ∧ k0 ≤ 2
  · refine z_callD (c154 (h := (n, K, L, I, J, G)) k0) (by omega) (by omega) (by omega) (Nat.le_of_ble_eq_true rfl) ?_
    try simp only [zW, z_wp1, z_ld, z_f0, z_f1, z_f2, z_f3, List.getElem?_cons_zero, List.getElem?_cons_succ, true_and, and_true, Int32.reduceOfInt, z_i10, z_i01, Int32.reduceLT, Int32.reduceLE, Int32.reduceAdd, Int32.reduceSub, z_set, z_set2, z_kil, List.set_cons_zero, List.set_cons_succ, List.take_succ_cons, List.take_zero, List.drop_succ_cons, List.drop_zero, List.reverse_cons, List.reverse_nil, List.nil_append, List.cons_append, List.getD_cons_succ, List.getD_cons_zero, List.getD_nil, List.length_cons, List.length_nil, List.map_cons, List.map_nil, List.sum_cons, List.sum_nil, Nat.reduceAdd, Nat.reduceLeDiff, Value.category, Option.toList, true_or, or_true, z_ua, ↓reduceIte, Nat.reduceEqDiff, eq_self, not_true_eq_false, not_false_eq_true, false_implies, true_implies, Classical.not_not, Nat.le_refl, Nat.zero_le, z_b1 h1]
    try dsimp only
    by_cases h2 : 0 ≤ d1 ∧ d1 ≤ 999
    · refine z_callD (c153 (h := (n, K, L, I, J, G)) d1) (by omega) (by omega) (by omega) (Nat.le_of_ble_eq_true rfl) ?_
      try simp only [zW, z_wp1, z_ld, z_f0, z_f1, z_f2, z_f3, List.getElem?_cons_zero, List.getElem?_cons_succ, true_and, and_true, Int32.reduceOfInt, z_i10, z_i01, Int32.reduceLT, Int32.reduceLE, Int32.reduceAdd, Int32.reduceSub, z_set, z_set2, z_kil, List.set_cons_zero, List.set_cons_succ, List.take_succ_cons, List.take_zero, List.drop_succ_cons, List.drop_zero, List.reverse_cons, List.reverse_nil, List.nil_append, List.cons_append, List.getD_cons_succ, List.getD_cons_zero, List.getD_nil, List.length_cons, List.length_nil, List.map_cons, List.map_nil, List.sum_cons, List.sum_nil, Nat.reduceAdd, Nat.reduceLeDiff, Value.category, Option.toList, true_or, or_true, z_ua, ↓reduceIte, Nat.reduceEqDiff, eq_self, not_true_eq_false, not_false_eq_true, false_implies, true_implies, Classical.not_not, Nat.le_refl, Nat.zero_le, z_b1 h2]
      try dsimp only
      have h3 : ¬ (0 ≤ d2 ∧ d2 ≤ 999) := fun q => h ⟨h1, h2, q⟩
      refine z_callD (c153 (h := (n, K, L, I, J, G)) d2) (by omega) (by omega) (by omega) (Nat.le_of_ble_eq_true rfl) ?_
      try simp only [zW, z_wp1, z_ld, z_f0, z_f1, z_f2, z_f3, List.getElem?_cons_zero, List.getElem?_cons_succ, true_and, and_true, Int32.reduceOfInt, z_i10, z_i01, Int32.reduceLT, Int32.reduceLE, Int32.reduceAdd, Int32.reduceSub, z_set, z_set2, z_kil, List.set_cons_zero, List.set_cons_succ, List.take_succ_cons, List.take_zero, List.drop_succ_cons, List.drop_zero, List.reverse_cons, List.reverse_nil, List.nil_append, List.cons_append, List.getD_cons_succ, List.getD_cons_zero, List.getD_nil, List.length_cons, List.length_nil, List.map_cons, List.map_nil, List.sum_cons, List.sum_nil, Nat.reduceAdd, Nat.reduceLeDiff, Value.category, Option.toList, true_or, or_true, z_ua, ↓reduceIte, Nat.reduceEqDiff, eq_self, not_true_eq_false, not_false_eq_true, false_implies, true_implies, Classical.not_not, Nat.le_refl, Nat.zero_le, z_b0 h3]
      try dsimp only
      exact no
    · refine z_callD (c153 (h := (n, K, L, I, J, G)) d1) (by omega) (by omega) (by omega) (Nat.le_of_ble_eq_true rfl) ?_
      try simp only [zW, z_wp1, z_ld, z_f0, z_f1, z_f2, z_f3, List.getElem?_cons_zero, List.getElem?_cons_succ, true_and, and_true, Int32.reduceOfInt, z_i10, z_i01, Int32.reduceLT, Int32.reduceLE, Int32.reduceAdd, Int32.reduceSub, z_set, z_set2, z_kil, List.set_cons_zero, List.set_cons_succ, List.take_succ_cons, List.take_zero, List.drop_succ_cons, List.drop_zero, List.reverse_cons, List.reverse_nil, List.nil_append, List.cons_append, List.getD_cons_succ, List.getD_cons_zero, List.getD_nil, List.length_cons, List.length_nil, List.map_cons, List.map_nil, List.sum_cons, List.sum_nil, Nat.reduceAdd, Nat.reduceLeDiff, Value.category, Option.toList, true_or, or_true, z_ua, ↓reduceIte, Nat.reduceEqDiff, eq_self, not_true_eq_false, not_false_eq_true, false_implies, true_implies, Classical.not_not, Nat.le_refl, Nat.zero_le, z_b0 h2]
      try dsimp only
      exact no
  · refine z_callD (c154 (h := (n, K, L, I, J, G)) k0) (by omega) (by omega) (by omega) (Nat.le_of_ble_eq_true rfl) ?_
    try simp only [zW, z_wp1, z_ld, z_f0, z_f1, z_f2, z_f3, List.getElem?_cons_zero, List.getElem?_cons_succ, true_and, and_true, Int32.reduceOfInt, z_i10, z_i01, Int32.reduceLT, Int32.reduceLE, Int32.reduceAdd, Int32.reduceSub, z_set, z_set2, z_kil, List.set_cons_zero, List.set_cons_succ, List.take_succ_cons, List.take_zero, List.drop_succ_cons, List.drop_zero, List.reverse_cons, List.reverse_nil, List.nil_append, List.cons_append, List.getD_cons_succ, List.getD_cons_zero, List.getD_nil, List.length_cons, List.length_nil, List.map_cons, List.map_nil, List.sum_cons, List.sum_nil, Nat.reduceAdd, Nat.reduceLeDiff, Value.category, Option.toList, true_or, or_true, z_ua, ↓reduceIte, Nat.reduceEqDiff, eq_self, not_true_eq_false, not_false_eq_true, false_implies, true_implies, Classical.not_not, Nat.le_refl, Nat.zero_le, z_b0 h1]
    try dsimp only
    exact no
end CHG
