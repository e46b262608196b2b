/-! The class: differing -/
section X11
variable {l : Launch} {n : Nat} {K L : Nat → Nat} {I : Nat → Nat → Int32} {J : Nat → Nat → Int64} {G : Nat → Nat → Value} {cd N : Nat} {tr : Nat → (Int32 → Int32) → Int32}
theorem c102_al {X : zX} (hS : SS K L G) (hj : X.2.1 = 102) {l1 l2 l3 : Value} {y4 : Int32} (kk : ∀ (b : Int32) (x6 : Option Value), (b = 1 → ∀ g, g < 6 → I 19 g = I 20 g) → (b = 0 ∨ b = 1) → zV X 70 [some (.ref 10), some l1, some l2, some l3, some (.int y4), some (.int b), x6, none] [] (n, K, L, I, J, G) 0 0) : ∀ (k m : Nat) (b : Int32), m + k = 6 → (b = 1 → ∀ g, g < m → I 19 g = I 20 g) → (b = 0 ∨ b = 1) → zV X 28 [some (.ref 10), some l1, some l2, some l3, some (.int y4), some (.int b), some (.int (nI m)), none] [] (n, K, L, I, J, G) 0 0
  | 0, m, b, hk, h1, h2 => by
    have e : m = 6 := by omega
    subst e
    have n6 : (6 : Int32) ≤ nI 6 := by decide
    refine zW_ok hj B102_28 28 _ _ _ _ _ b102_28 ?_
    simp only [B102_28, zW, z_wp1, z_ld, z_f0, z_f1, z_f2, z_f3, List.getElem?_cons_zero, List.getElem?_cons_succ, true_and, and_true, Int32.reduceOfInt, z_i10, z_i01, Int32.reduceLT, Int32.reduceLE, Int32.reduceAdd, Int32.reduceSub, z_set, z_set2, z_kil, List.set_cons_zero, List.set_cons_succ, List.take_succ_cons, List.take_zero, List.drop_succ_cons, List.drop_zero, List.reverse_cons, List.reverse_nil, List.nil_append, List.cons_append, List.getD_cons_succ, List.getD_cons_zero, List.getD_nil, List.length_cons, List.length_nil, List.map_cons, List.map_nil, List.sum_cons, List.sum_nil, Nat.reduceAdd, Nat.reduceLeDiff, Value.category, Option.toList, true_or, or_true, z_ua, ↓reduceIte, Nat.reduceEqDiff, eq_self, not_true_eq_false, not_false_eq_true, false_implies, true_implies, Classical.not_not, Nat.le_refl, Nat.zero_le, n6]
    try dsimp only
    exact kk b _ h1 h2
  | k + 1, m, b, hk, h1, h2 => by
    have n6 : ¬ (6 : Int32) ≤ nI m := fun q => by
      have := (nI_leI (a := 6) (b := m) (by omega) (by omega)).mp q
      omega
    have em : (nI m).toNatClampNeg = m := nI_clamp (by omega)
    have vm : vp_in (nI m) 6 := vp_in_nI (by omega) (by omega)
    have ih := c102_al hS hj kk k (m + 1)
    have no : ∀ b : Int32, zV X 61 [some (.ref 10), some l1, some l2, some l3, some (.int y4), some (.int b), some (.int (nI m)), none] [] (n, K, L, I, J, G) 0 0 := fun b => by
      refine zW_ok hj B102_61 61 _ _ _ _ _ b102_61 ?_
      simp only [B102_61, zW, z_wp1, z_ld, z_f0, z_f1, z_f2, z_f3, List.getElem?_cons_zero, List.getElem?_cons_succ, true_and, and_true, Int32.reduceOfInt, z_i10, z_i01, Int32.reduceLT, Int32.reduceLE, Int32.reduceAdd, Int32.reduceSub, z_set, z_set2, z_kil, List.set_cons_zero, List.set_cons_succ, List.take_succ_cons, List.take_zero, List.drop_succ_cons, List.drop_zero, List.reverse_cons, List.reverse_nil, List.nil_append, List.cons_append, List.getD_cons_succ, List.getD_cons_zero, List.getD_nil, List.length_cons, List.length_nil, List.map_cons, List.map_nil, List.sum_cons, List.sum_nil, Nat.reduceAdd, Nat.reduceLeDiff, Value.category, Option.toList, true_or, or_true, z_ua, ↓reduceIte, Nat.reduceEqDiff, eq_self, not_true_eq_false, not_false_eq_true, false_implies, true_implies, Classical.not_not, Nat.le_refl, Nat.zero_le]
      try dsimp only
      refine zW_ok hj B102_62 62 _ _ _ _ _ b102_62 ?_
      simp only [B102_62, zW, z_wp1, z_ld, z_f0, z_f1, z_f2, z_f3, List.getElem?_cons_zero, List.getElem?_cons_succ, true_and, and_true, Int32.reduceOfInt, z_i10, z_i01, Int32.reduceLT, Int32.reduceLE, Int32.reduceAdd, Int32.reduceSub, z_set, z_set2, z_kil, List.set_cons_zero, List.set_cons_succ, List.take_succ_cons, List.take_zero, List.drop_succ_cons, List.drop_zero, List.reverse_cons, List.reverse_nil, List.nil_append, List.cons_append, List.getD_cons_succ, List.getD_cons_zero, List.getD_nil, List.length_cons, List.length_nil, List.map_cons, List.map_nil, List.sum_cons, List.sum_nil, Nat.reduceAdd, Nat.reduceLeDiff, Value.category, Option.toList, true_or, or_true, z_ua, ↓reduceIte, Nat.reduceEqDiff, eq_self, not_true_eq_false, not_false_eq_true, false_implies, true_implies, Classical.not_not, Nat.le_refl, Nat.zero_le, nI_1]
      try dsimp only
      exact ih 0 (by omega) (fun q => absurd q (by decide)) (Or.inl rfl)
    refine zW_ok hj B102_28 28 _ _ _ _ _ b102_28 ?_
    simp only [B102_28, zW, z_wp1, z_ld, z_f0, z_f1, z_f2, z_f3, List.getElem?_cons_zero, List.getElem?_cons_succ, true_and, and_true, Int32.reduceOfInt, z_i10, z_i01, Int32.reduceLT, Int32.reduceLE, Int32.reduceAdd, Int32.reduceSub, z_set, z_set2, z_kil, List.set_cons_zero, List.set_cons_succ, List.take_succ_cons, List.take_zero, List.drop_succ_cons, List.drop_zero, List.reverse_cons, List.reverse_nil, List.nil_append, List.cons_append, List.getD_cons_succ, List.getD_cons_zero, List.getD_nil, List.length_cons, List.length_nil, List.map_cons, List.map_nil, List.sum_cons, List.sum_nil, Nat.reduceAdd, Nat.reduceLeDiff, Value.category, Option.toList, true_or, or_true, z_ua, ↓reduceIte, Nat.reduceEqDiff, eq_self, not_true_eq_false, not_false_eq_true, false_implies, true_implies, Classical.not_not, Nat.le_refl, Nat.zero_le, n6, sK10 hS, sG10_8 hS, sK19 hS, sL19 hS, sG10_9 hS, sK20 hS, sL20 hS, em, vm]
    try dsimp only
    refine ⟨fun h => no _, fun hb => ⟨fun h => no _, fun h => ?_⟩⟩
    refine zW_ok hj B102_62 62 _ _ _ _ _ b102_62 ?_
    simp only [B102_62, zW, z_wp1, z_ld, z_f0, z_f1, z_f2, z_f3, List.getElem?_cons_zero, List.getElem?_cons_succ, true_and, and_true, Int32.reduceOfInt, z_i10, z_i01, Int32.reduceLT, Int32.reduceLE, Int32.reduceAdd, Int32.reduceSub, z_set, z_set2, z_kil, List.set_cons_zero, List.set_cons_succ, List.take_succ_cons, List.take_zero, List.drop_succ_cons, List.drop_zero, List.reverse_cons, List.reverse_nil, List.nil_append, List.cons_append, List.getD_cons_succ, List.getD_cons_zero, List.getD_nil, List.length_cons, List.length_nil, List.map_cons, List.map_nil, List.sum_cons, List.sum_nil, Nat.reduceAdd, Nat.reduceLeDiff, Value.category, Option.toList, true_or, or_true, z_ua, ↓reduceIte, Nat.reduceEqDiff, eq_self, not_true_eq_false, not_false_eq_true, false_implies, true_implies, Classical.not_not, Nat.le_refl, Nat.zero_le, nI_1]
    try dsimp only
    refine ih 1 (by omega) (fun _ g hg => ?_) (Or.inr rfl)
    by_cases z : g = m
    · rw [z]; exact h
    · exact h1 (h2.elim (fun q => absurd q hb) id) g (by omega)
/-- differing -/
theorem c102 (hS : SS K L G) (hC : XC G cd) (hsc0 : x_scale I cd N tr) {q1 q2 : Nat} (a1 : K q1 = 13) (a2 : L q1 = 192) (a3 : q1 ≠ 19) (b1 : K q2 = 13) (b2 : L q2 = 192) (b3 : q2 ≠ 19) (b4 : q2 ≠ 20) (k0 : Int32) {f : Nat} (hf : f < 16) : z_Ctr l 4 102 [.ref 10, .ref q1, .ref q2, .int k0, .int (nI f)] (n, K, L, I, J, G) 0 0 (fun r h' => r = some (.int (x_df (fun i => tr i (x_me (I q1) k0 f)) (fun i => tr i (x_me (I q2) k0 f)) N)) ∧ ∃ I', h' = (n, K, L, I', J, G) ∧ x_fd I I' cd) := by
  have c1 := hC.1
  refine z_ctr (by decide) (by decide +kernel) (Nat.le_of_ble_eq_true rfl) (by decide +kernel) (fun X hl hj hd hm hs hsc hQ => ?_)
  show zV X 0 [some (.ref 10), some (.ref q1), some (.ref q2), some (.int k0), some (.int (nI f)), none, none, none] [] _ 0 0
  refine zW_ok hj B102_0 0 _ _ _ _ _ b102_0 ?_
  simp only [B102_0, zW, z_wp1, z_ld, z_f0, z_f1, z_f2, z_f3, List.getElem?_cons_zero, List.getElem?_cons_succ, true_and, and_true, Int32.reduceOfInt, z_i10, z_i01, Int32.reduceLT, Int32.reduceLE, Int32.reduceAdd, Int32.reduceSub, z_set, z_set2, z_kil, List.set_cons_zero, List.set_cons_succ, List.take_succ_cons, List.take_zero, List.drop_succ_cons, List.drop_zero, List.reverse_cons, List.reverse_nil, List.nil_append, List.cons_append, List.getD_cons_succ, List.getD_cons_zero, List.getD_nil, List.length_cons, List.length_nil, List.map_cons, List.map_nil, List.sum_cons, List.sum_nil, Nat.reduceAdd, Nat.reduceLeDiff, Value.category, Option.toList, true_or, or_true, z_ua, ↓reduceIte, Nat.reduceEqDiff, eq_self, not_true_eq_false, not_false_eq_true, false_implies, true_implies, Classical.not_not, Nat.le_refl, Nat.zero_le, sK10 hS, sG10_8 hS, sK19 hS, sL19 hS, sG10_9 hS, sK20 hS, sL20 hS]
  try dsimp only
  refine z_callQ (c104 (q := q1) (p := 19) (I := I) a1 a2 (sK19 hS) (sL19 hS) a3 hf k0) (by omega) (by omega) (by omega) (Nat.le_of_ble_eq_true rfl) ?_
  rintro r h' ⟨rfl, I2, rfl, o2, g2⟩
  simp only [zW, z_wp1, z_ld, z_f0, z_f1, z_f2, z_f3, List.getElem?_cons_zero, List.getElem?_cons_succ, true_and, and_true, Int32.reduceOfInt, z_i10, z_i01, Int32.reduceLT, Int32.reduceLE, Int32.reduceAdd, Int32.reduceSub, z_set, z_set2, z_kil, List.set_cons_zero, List.set_cons_succ, List.take_succ_cons, List.take_zero, List.drop_succ_cons, List.drop_zero, List.reverse_cons, List.reverse_nil, List.nil_append, List.cons_append, List.getD_cons_succ, List.getD_cons_zero, List.getD_nil, List.length_cons, List.length_nil, List.map_cons, List.map_nil, List.sum_cons, List.sum_nil, Nat.reduceAdd, Nat.reduceLeDiff, Value.category, Option.toList, true_or, or_true, z_ua, ↓reduceIte, Nat.reduceEqDiff, eq_self, not_true_eq_false, not_false_eq_true, false_implies, true_implies, Classical.not_not, Nat.le_refl, Nat.zero_le, sK10 hS, sG10_9 hS, sK20 hS, sL20 hS]
  try dsimp only
  refine z_callQ (c104 (q := q2) (p := 20) (I := I2) b1 b2 (sK20 hS) (sL20 hS) b4 hf k0) (by omega) (by omega) (by omega) (Nat.le_of_ble_eq_true rfl) ?_
  rintro r h' ⟨rfl, I3, rfl, o3, g3⟩
  simp only [zW, z_wp1, z_ld, z_f0, z_f1, z_f2, z_f3, List.getElem?_cons_zero, List.getElem?_cons_succ, true_and, and_true, Int32.reduceOfInt, z_i10, z_i01, Int32.reduceLT, Int32.reduceLE, Int32.reduceAdd, Int32.reduceSub, z_set, z_set2, z_kil, List.set_cons_zero, List.set_cons_succ, List.take_succ_cons, List.take_zero, List.drop_succ_cons, List.drop_zero, List.reverse_cons, List.reverse_nil, List.nil_append, List.cons_append, List.getD_cons_succ, List.getD_cons_zero, List.getD_nil, List.length_cons, List.length_nil, List.map_cons, List.map_nil, List.sum_cons, List.sum_nil, Nat.reduceAdd, Nat.reduceLeDiff, Value.category, Option.toList, true_or, or_true, z_ua, ↓reduceIte, Nat.reduceEqDiff, eq_self, not_true_eq_false, not_false_eq_true, false_implies, true_implies, Classical.not_not, Nat.le_refl, Nat.zero_le]
  try dsimp only
  have e19 : ∀ m, m < 6 → I3 19 m = x_me (I q1) k0 f (nI m) := fun m hm => by rw [o3 19 (by decide)]; exact g2 m hm
  have e20 : ∀ m, m < 6 → I3 20 m = x_me (I q2) k0 f (nI m) := fun m hm => by rw [g3 m hm, o2 q2 b3]
  have eo : ∀ q, q ≠ 19 → q ≠ 20 → I3 q = I q := fun q a b => (o3 q b).trans (o2 q a)
  have hsc3 : x_scale I3 cd N tr := hsc0.congr (by rw [eo cd (by omega) (by omega)]) (eo _ (by omega) (by omega)) (eo _ (by omega) (by omega))
  have hA : ∀ i, i < N → tr i (x_me (I q1) k0 f) = tr i (fun a => I3 19 a.toNatClampNeg) := fun i hi => x_tr_congr hsc0 hi (fun a ha => by
    obtain ⟨m, hm6, rfl⟩ := x_lt6 ha
    rw [nI_clamp (by omega), e19 m hm6])
  have hB : ∀ i, i < N → tr i (x_me (I q2) k0 f) = tr i (fun a => I3 20 a.toNatClampNeg) := fun i hi => x_tr_congr hsc0 hi (fun a ha => by
    obtain ⟨m, hm6, rfl⟩ := x_lt6 ha
    rw [nI_clamp (by omega), e20 m hm6])
  have fin : ∀ I', x_off I3 I' cd (cd + 3) → x_fd I I' cd := fun I' ho => ⟨fun q a b c d => by rw [ho.1 q c d]; exact eo q a b, fun k a b => by rw [ho.2 k a b, eo cd (by omega) (by omega)]⟩
  refine (c102_al (I := I3) hS hj (l1 := .ref q1) (l2 := .ref q2) (l3 := .int k0) (y4 := nI f) (fun b x6 h1 h2 => ?_) 6 0 1 (by omega) (fun _ g hg => by omega) (Or.inr rfl)).weak (by simp only [z_le, nI_0]; simp)
  refine zW_ok hj B102_70 70 _ _ _ _ _ b102_70 ?_
  simp only [B102_70, zW, z_wp1, z_ld, z_f0, z_f1, z_f2, z_f3, List.getElem?_cons_zero, List.getElem?_cons_succ, true_and, and_true, Int32.reduceOfInt, z_i10, z_i01, Int32.reduceLT, Int32.reduceLE, Int32.reduceAdd, Int32.reduceSub, z_set, z_set2, z_kil, List.set_cons_zero, List.set_cons_succ, List.take_succ_cons, List.take_zero, List.drop_succ_cons, List.drop_zero, List.reverse_cons, List.reverse_nil, List.nil_append, List.cons_append, List.getD_cons_succ, List.getD_cons_zero, List.getD_nil, List.length_cons, List.length_nil, List.map_cons, List.map_nil, List.sum_cons, List.sum_nil, Nat.reduceAdd, Nat.reduceLeDiff, Value.category, Option.toList, true_or, or_true, z_ua, ↓reduceIte, Nat.reduceEqDiff, eq_self, not_true_eq_false, not_false_eq_true, false_implies, true_implies, Classical.not_not, Nat.le_refl, Nat.zero_le]
  try dsimp only
  rcases h2 with rfl | rfl
  · refine (c102_in (I := I3) hS hC hj hd hm hs hsc3 (l1 := .ref q1) (l2 := .ref q2) (l3 := .int k0) (l4 := .int (nI f)) hA hB (fun I' ho => hQ _ _ ⟨rfl, I', rfl, fin I' ho⟩) N 0 I3 (by omega) ⟨fun _ _ _ => rfl, fun _ _ _ => rfl⟩).weak (by simp only [z_le, nI_0, x_df]; simp)
  · have he := h1 rfl
    have e0 : x_df (fun i => tr i (x_me (I q1) k0 f)) (fun i => tr i (x_me (I q2) k0 f)) N = 0 := by
      refine Eq.trans (x_df_congr (A' := fun i => tr i (x_me (I q1) k0 f)) (B' := fun i => tr i (x_me (I q1) k0 f)) (fun i hi => ⟨rfl, x_tr_congr hsc0 hi (fun a ha => ?_)⟩)) x_df_same
      obtain ⟨m, hm6, rfl⟩ := x_lt6 ha
      rw [← e19 m hm6, ← e20 m hm6, he m hm6]
    have end_ : zV X 137 [some (.ref 10), some (.ref q1), some (.ref q2), some (.int k0), some (.int (nI f)), some (.int 1), some (.int 0), some (.int 0)] [] (n, K, L, I3, J, G) 0 0 := by
      refine zW_ok hj B102_137 137 _ _ _ _ _ b102_137 ?_
      simp only [B102_137, zW, z_wp1, z_ld, z_f0, z_f1, z_f2, z_f3, List.getElem?_cons_zero, List.getElem?_cons_succ, true_and, and_true, Int32.reduceOfInt, z_i10, z_i01, Int32.reduceLT, Int32.reduceLE, Int32.reduceAdd, Int32.reduceSub, z_set, z_set2, z_kil, List.set_cons_zero, List.set_cons_succ, List.take_succ_cons, List.take_zero, List.drop_succ_cons, List.drop_zero, List.reverse_cons, List.reverse_nil, List.nil_append, List.cons_append, List.getD_cons_succ, List.getD_cons_zero, List.getD_nil, List.length_cons, List.length_nil, List.map_cons, List.map_nil, List.sum_cons, List.sum_nil, Nat.reduceAdd, Nat.reduceLeDiff, Value.category, Option.toList, true_or, or_true, z_ua, ↓reduceIte, Nat.reduceEqDiff, eq_self, not_true_eq_false, not_false_eq_true, false_implies, true_implies, Classical.not_not, Nat.le_refl, Nat.zero_le]
      try dsimp only
      exact hQ _ _ ⟨by rw [e0], I3, rfl, fin I3 ⟨fun _ _ _ => rfl, fun _ _ _ => rfl⟩⟩
    have k5 := (XD_of hS hC.1).1
    have hg := hC.2.1
    refine zW_ok hj B102_76 76 _ _ _ _ _ b102_76 ?_
    simp only [B102_76, zW, z_wp1, z_ld, z_f0, z_f1, z_f2, z_f3, List.getElem?_cons_zero, List.getElem?_cons_succ, true_and, and_true, Int32.reduceOfInt, z_i10, z_i01, Int32.reduceLT, Int32.reduceLE, Int32.reduceAdd, Int32.reduceSub, z_set, z_set2, z_kil, List.set_cons_zero, List.set_cons_succ, List.take_succ_cons, List.take_zero, List.drop_succ_cons, List.drop_zero, List.reverse_cons, List.reverse_nil, List.nil_append, List.cons_append, List.getD_cons_succ, List.getD_cons_zero, List.getD_nil, List.length_cons, List.length_nil, List.map_cons, List.map_nil, List.sum_cons, List.sum_nil, Nat.reduceAdd, Nat.reduceLeDiff, Value.category, Option.toList, true_or, or_true, z_ua, ↓reduceIte, Nat.reduceEqDiff, eq_self, not_true_eq_false, not_false_eq_true, false_implies, true_implies, Classical.not_not, Nat.le_refl, Nat.zero_le, sK10 hS, hg, k5]
    try dsimp only
    exact ⟨fun _ => end_, fun _ => end_⟩
end X11
