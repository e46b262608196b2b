/-! Keys of the class: what they tell -/
theorem k_st_no (ys mb co : Nat → Int32) (g : Nat → Int32 × Int32 × Int32) (s : Int32) : ∀ N, N < 2 ^ 31 → (k_st ys mb co g s N).2.1 = -1 → k_st ys mb co g s N = (0, -1, 1)
  | 0, _, _ => rfl
  | i + 1, hN, h => by
    rw [k_st] at h ⊢
    by_cases hc : k_ok ys mb s i ∧ ((k_st ys mb co g s i).2.1 = -1 ∨ k_v1 ys co g s i < (k_st ys mb co g s i).1)
    · rw [if_pos hc] at h
      exact absurd h (nI_m1 (by omega))
    · rw [if_neg hc] at h ⊢
      exact k_st_no ys mb co g s i (by omega) h
theorem k_to_eq {ys mb : Nat → Int32} {s i f a b : Nat} (hs : s < 2 ^ 16) (ea : nI s &&& ys i = nI a) (eb : nI s &&& (ys i ^^^ -1) = nI b) (ha : a < s) (hb : b < s) : (ys i >>> (nI f &&& 31) &&& 1 = 1 → k_to ys f i s = a) ∧ (¬ ys i >>> (nI f &&& 31) &&& 1 = 1 → k_to ys f i s = b) := by
  refine ⟨fun h => ?_, fun h => ?_⟩
  · rw [k_to, if_pos h, ea, nI_clamp (by omega)]
  · rw [k_to, if_neg h, eb, nI_clamp (by omega)]
theorem k_pt_end {ys mb co : Nat → Int32} {N f : Nat} (hN : N ≤ 12) : ∀ (k s : Nat), s < 2 ^ 16 → k_sp ys (nI s) N ≤ k → (k_v ys mb co N (k_pt (k_v ys mb co N) ys f k s).2).2.1 = -1 ∧ (k_pt (k_v ys mb co N) ys f k s).2 ≤ s := by
  intro k
  induction k with
  | zero =>
    intro s hs hk
    simp only [k_pt]
    refine ⟨?_, Nat.le_refl _⟩
    have hask := k_st_ask ys mb co (k_v ys mb co N) (nI s) N
    rw [← k_v_eq ys mb co N hs] at hask
    rcases hask with e | ⟨i, hi, e, hok, _⟩
    · exact e
    · obtain ⟨a, b, ea, eb, ha, hb, ha0, hb0, ba, bb⟩ := k_part hs hok
      have := k_part_sp (N := N) hok hi ba bb
      omega
  | succ k ih =>
    intro s hs hk
    rw [k_pt]
    by_cases h : (k_v ys mb co N s).2.1 = -1
    · rw [if_pos h]
      exact ⟨h, Nat.le_refl _⟩
    · rw [if_neg h]
      have hask := k_st_ask ys mb co (k_v ys mb co N) (nI s) N
      rw [← k_v_eq ys mb co N hs] at hask
      obtain ⟨i, hi, e, hok, _⟩ := hask.resolve_left h
      obtain ⟨a, b, ea, eb, ha, hb, ha0, hb0, ba, bb⟩ := k_part hs hok
      obtain ⟨p1, p2⟩ := k_part_sp (N := N) hok hi ba bb
      rw [e, nI_clamp (by omega)]
      have ht := k_to_eq (mb := mb) (f := f) hs ea eb ha hb
      by_cases hc : ys i >>> (nI f &&& 31) &&& 1 = 1
      · rw [ht.1 hc]
        have := ih a (by omega) (by omega)
        exact ⟨this.1, by omega⟩
      · rw [ht.2 hc]
        have := ih b (by omega) (by omega)
        exact ⟨this.1, by omega⟩
section KT3
variable {l : Launch} {n : Nat} {K L : Nat → Nat} {I : Nat → Nat → Int32} {J : Nat → Nat → Int64} {G : Nat → Nat → Value} {pp PL F N R s : Nat} {ys mb co : Nat → Int32}
theorem c22 (hS : SS K L G) (hsF : s < 2 ^ F) (hs0 : s ≠ 0) (hX : XK K L G I pp PL F N R ys mb co) (hmm : k_memo I pp PL N R ys mb co) : z_Ctr l 14 22 [.ref 53, .int (nI s)] (n, K, L, I, J, G) 0 0 (k_post n K L I J G pp PL N R ys mb co s) := by
  have h1 := k_sp_N ys (nI s) N
  have h2 := hX.2.2.2.2.2.2.2.1
  refine z_ctr (by decide) (by decide +kernel) (Nat.le_of_ble_eq_true rfl) (by decide +kernel) (fun X hl hj hd hm hs hsc hQ => ?_)
  show zV X 0 [some (.ref 53), some (.int (nI s))] [] _ 0 0
  refine zW_ok hj B22_0 0 _ _ _ _ _ b22_0 ?_
  simp only [B22_0, zW, z_wp1, z_ld, z_f0, z_f1, z_f2, z_f3, List.getElem?_cons_zero, List.getElem?_cons_succ, true_and, and_true, Int32.reduceOfInt, z_i10, z_i01, Int32.reduceLT, Int32.reduceLE, Int32.reduceAdd, Int32.reduceSub, z_set, z_set2, z_kil, List.set_cons_zero, List.set_cons_succ, List.take_succ_cons, List.take_zero, List.drop_succ_cons, List.drop_zero, List.reverse_cons, List.reverse_nil, List.nil_append, List.cons_append, List.getD_cons_succ, List.getD_cons_zero, List.getD_nil, List.length_cons, List.length_nil, List.map_cons, List.map_nil, List.sum_cons, List.sum_nil, Nat.reduceAdd, Nat.reduceLeDiff, Value.category, Option.toList, true_or, or_true, z_ua, ↓reduceIte, Nat.reduceEqDiff, eq_self, not_true_eq_false, not_false_eq_true, false_implies, true_implies, Classical.not_not, Nat.le_refl, Nat.zero_le, sK53 hS]
  try dsimp only
  refine z_callQ (c24 hS s hsF hs0 0 I (by omega) hX hmm) (by omega) (by omega) (by omega) (Nat.le_of_ble_eq_true rfl) ?_
  rintro r h' ⟨rfl, I2, rfl, a⟩
  simp only [zW, z_wp1, z_ld, z_f0, z_f1, z_f2, z_f3, List.getElem?_cons_zero, List.getElem?_cons_succ, true_and, and_true, Int32.reduceOfInt, z_i10, z_i01, Int32.reduceLT, Int32.reduceLE, Int32.reduceAdd, Int32.reduceSub, z_set, z_set2, z_kil, List.set_cons_zero, List.set_cons_succ, List.take_succ_cons, List.take_zero, List.drop_succ_cons, List.drop_zero, List.reverse_cons, List.reverse_nil, List.nil_append, List.cons_append, List.getD_cons_succ, List.getD_cons_zero, List.getD_nil, List.length_cons, List.length_nil, List.map_cons, List.map_nil, List.sum_cons, List.sum_nil, Nat.reduceAdd, Nat.reduceLeDiff, Value.category, Option.toList, true_or, or_true, z_ua, ↓reduceIte, Nat.reduceEqDiff, eq_self, not_true_eq_false, not_false_eq_true, false_implies, true_implies, Classical.not_not, Nat.le_refl, Nat.zero_le]
  try dsimp only
  exact hQ _ _ ⟨rfl, I2, rfl, a⟩
theorem c23 (hS : SS K L G) (hsF : s < 2 ^ F) (hs0 : s ≠ 0) (hX : XK K L G I pp PL F N R ys mb co) (hmm : k_memo I pp PL N R ys mb co) : z_Ctr l 14 23 [.ref 53, .int (nI s)] (n, K, L, I, J, G) 0 0 (fun r h' => r = some (.int (k_v ys mb co N s).2.1) ∧ ∃ I', h' = (n, K, L, I', J, G) ∧ (∀ q, q ≠ pp → I' q = I q) ∧ k_memo I' pp PL N R ys mb co) := by
  have h1 := k_sp_N ys (nI s) N
  obtain ⟨a1, a2, a3, a4, a5, a6, a7, a8, a9, a10, a11, a12⟩ := id hX
  have hp := z_powF a9
  have e1 : (nI s).toNatClampNeg = s := nI_clamp (by omega)
  have v1 : vp_in (nI s) PL := vp_in_nI (by omega) (by omega)
  refine z_ctr (by decide) (by decide +kernel) (Nat.le_of_ble_eq_true rfl) (by decide +kernel) (fun X hl hj hd hm hs hsc hQ => ?_)
  show zV X 0 [some (.ref 53), some (.int (nI s))] [] _ 0 0
  refine zW_ok hj B23_0 0 _ _ _ _ _ b23_0 ?_
  simp only [B23_0, zW, z_wp1, z_ld, z_f0, z_f1, z_f2, z_f3, List.getElem?_cons_zero, List.getElem?_cons_succ, true_and, and_true, Int32.reduceOfInt, z_i10, z_i01, Int32.reduceLT, Int32.reduceLE, Int32.reduceAdd, Int32.reduceSub, z_set, z_set2, z_kil, List.set_cons_zero, List.set_cons_succ, List.take_succ_cons, List.take_zero, List.drop_succ_cons, List.drop_zero, List.reverse_cons, List.reverse_nil, List.nil_append, List.cons_append, List.getD_cons_succ, List.getD_cons_zero, List.getD_nil, List.length_cons, List.length_nil, List.map_cons, List.map_nil, List.sum_cons, List.sum_nil, Nat.reduceAdd, Nat.reduceLeDiff, Value.category, Option.toList, true_or, or_true, z_ua, ↓reduceIte, Nat.reduceEqDiff, eq_self, not_true_eq_false, not_false_eq_true, false_implies, true_implies, Classical.not_not, Nat.le_refl, Nat.zero_le, sK53 hS]
  try dsimp only
  refine z_callQ (c24 hS s hsF hs0 0 I (by omega) hX hmm) (by omega) (by omega) (by omega) (Nat.le_of_ble_eq_true rfl) ?_
  rintro r h' ⟨rfl, I2, rfl, b1, b2, b3⟩
  simp only [zW, z_wp1, z_ld, z_f0, z_f1, z_f2, z_f3, List.getElem?_cons_zero, List.getElem?_cons_succ, true_and, and_true, Int32.reduceOfInt, z_i10, z_i01, Int32.reduceLT, Int32.reduceLE, Int32.reduceAdd, Int32.reduceSub, z_set, z_set2, z_kil, List.set_cons_zero, List.set_cons_succ, List.take_succ_cons, List.take_zero, List.drop_succ_cons, List.drop_zero, List.reverse_cons, List.reverse_nil, List.nil_append, List.cons_append, List.getD_cons_succ, List.getD_cons_zero, List.getD_nil, List.length_cons, List.length_nil, List.map_cons, List.map_nil, List.sum_cons, List.sum_nil, Nat.reduceAdd, Nat.reduceLeDiff, Value.category, Option.toList, true_or, or_true, z_ua, ↓reduceIte, Nat.reduceEqDiff, eq_self, not_true_eq_false, not_false_eq_true, false_implies, true_implies, Classical.not_not, Nat.le_refl, Nat.zero_le, sK53 hS, a1, a2, a3, e1, v1]
  try dsimp only
  obtain ⟨w, ch, hw, hc, ew, ec, ecd⟩ := k_cd_ok (ys := ys) (mb := mb) (co := co) (fun i hi => (a12 i hi).2.2.2) a8 a11 (s := s) (by omega)
  refine hQ _ _ ⟨?_, I2, rfl, b1, b2⟩
  rw [b3, ecd, k_pk_c a11 hw hc, ← ec]
  congr 2
  grind
theorem c26 (hS : SS K L G) : ∀ (s : Nat), s < 2 ^ F → s ≠ 0 → ∀ (dep : Nat) (I : Nat → Nat → Int32), dep + k_sp ys (nI s) N ≤ 12 → XK K L G I pp PL F N R ys mb co → k_memo I pp PL N R ys mb co → z_Ctr l (15 + k_sp ys (nI s) N) 26 [.ref 53, .int (nI s), .int (nI dep)] (n, K, L, I, J, G) 0 0 (fun r h' => r = some (.int (k_v ys mb co N s).2.2) ∧ ∃ I', h' = (n, K, L, I', J, G) ∧ (∀ q, q ≠ pp → I' q = I q) ∧ k_memo I' pp PL N R ys mb co) := by
  intro s
  induction s using Nat.strongRecOn with
  | ind s ih =>
    intro hsF hs0 dep I hdep hX hmm
    obtain ⟨a1, a2, a3, a4, a5, a6, a7, a8, a9, a10, a11, a12⟩ := id hX
    have hp := z_powF a9
    have hkv := k_v_eq ys mb co N (s := s) (by omega)
    have hask := k_st_ask ys mb co (k_v ys mb co N) (nI s) N
    rw [← hkv] at hask
    refine z_ctr (by decide) (by decide +kernel) (Nat.le_of_ble_eq_true rfl) (by decide +kernel) (fun X hl hj hd hm hs hsc hQ => ?_)
    show zV X 0 [some (.ref 53), some (.int (nI s)), some (.int (nI dep)), none] [] _ 0 0
    refine zW_ok hj B26_0 0 _ _ _ _ _ b26_0 ?_
    simp only [B26_0, zW, z_wp1, z_ld, z_f0, z_f1, z_f2, z_f3, List.getElem?_cons_zero, List.getElem?_cons_succ, true_and, and_true, Int32.reduceOfInt, z_i10, z_i01, Int32.reduceLT, Int32.reduceLE, Int32.reduceAdd, Int32.reduceSub, z_set, z_set2, z_kil, List.set_cons_zero, List.set_cons_succ, List.take_succ_cons, List.take_zero, List.drop_succ_cons, List.drop_zero, List.reverse_cons, List.reverse_nil, List.nil_append, List.cons_append, List.getD_cons_succ, List.getD_cons_zero, List.getD_nil, List.length_cons, List.length_nil, List.map_cons, List.map_nil, List.sum_cons, List.sum_nil, Nat.reduceAdd, Nat.reduceLeDiff, Value.category, Option.toList, true_or, or_true, z_ua, ↓reduceIte, Nat.reduceEqDiff, eq_self, not_true_eq_false, not_false_eq_true, false_implies, true_implies, Classical.not_not, Nat.le_refl, Nat.zero_le, sK53 hS]
    try dsimp only
    refine z_callQ (c23 hS hsF hs0 hX hmm) (by omega) (by omega) (by omega) (Nat.le_of_ble_eq_true rfl) ?_
    rintro r h' ⟨rfl, I2, rfl, b1, b2⟩
    simp only [zW, z_wp1, z_ld, z_f0, z_f1, z_f2, z_f3, List.getElem?_cons_zero, List.getElem?_cons_succ, true_and, and_true, Int32.reduceOfInt, z_i10, z_i01, Int32.reduceLT, Int32.reduceLE, Int32.reduceAdd, Int32.reduceSub, z_set, z_set2, z_kil, List.set_cons_zero, List.set_cons_succ, List.take_succ_cons, List.take_zero, List.drop_succ_cons, List.drop_zero, List.reverse_cons, List.reverse_nil, List.nil_append, List.cons_append, List.getD_cons_succ, List.getD_cons_zero, List.getD_nil, List.length_cons, List.length_nil, List.map_cons, List.map_nil, List.sum_cons, List.sum_nil, Nat.reduceAdd, Nat.reduceLeDiff, Value.category, Option.toList, true_or, or_true, z_ua, ↓reduceIte, Nat.reduceEqDiff, eq_self, not_true_eq_false, not_false_eq_true, false_implies, true_implies, Classical.not_not, Nat.le_refl, Nat.zero_le]
    try dsimp only
    have hdl : ¬ dep ≤ 12 → False := fun q => by omega
    have hdle : nI dep ≤ (12 : Int32) := (nI_leI (a := dep) (b := 12) (by omega) (by omega)).mpr (by omega)
    refine ⟨fun h => ?_, fun h => ⟨fun _ => ?_, fun h' => absurd hdle h'⟩⟩
    · refine zW_ok hj B26_17 17 _ _ _ _ _ b26_17 ?_
      simp only [B26_17, zW, z_wp1, z_ld, z_f0, z_f1, z_f2, z_f3, List.getElem?_cons_zero, List.getElem?_cons_succ, true_and, and_true, Int32.reduceOfInt, z_i10, z_i01, Int32.reduceLT, Int32.reduceLE, Int32.reduceAdd, Int32.reduceSub, z_set, z_set2, z_kil, List.set_cons_zero, List.set_cons_succ, List.take_succ_cons, List.take_zero, List.drop_succ_cons, List.drop_zero, List.reverse_cons, List.reverse_nil, List.nil_append, List.cons_append, List.getD_cons_succ, List.getD_cons_zero, List.getD_nil, List.length_cons, List.length_nil, List.map_cons, List.map_nil, List.sum_cons, List.sum_nil, Nat.reduceAdd, Nat.reduceLeDiff, Value.category, Option.toList, true_or, or_true, z_ua, ↓reduceIte, Nat.reduceEqDiff, eq_self, not_true_eq_false, not_false_eq_true, false_implies, true_implies, Classical.not_not, Nat.le_refl, Nat.zero_le]
      try dsimp only
      have h5 := k_st_no ys mb co (k_v ys mb co N) (nI s) N (by omega) (by rw [← hkv]; exact h)
      refine hQ _ _ ⟨?_, I2, rfl, b1, b2⟩
      rw [hkv, h5]
    · obtain ⟨i, hi, e, hok, _, eT⟩ := hask.resolve_left h
      obtain ⟨a, b, ea, eb, ha, hb, ha0, hb0, ba, bb⟩ := k_part (by omega) hok
      obtain ⟨p1, p2⟩ := k_part_sp (N := N) hok hi ba bb
      have hX2 := hX.congr b1
      have y1 := (hX2.2.2.2.2.2.2.2.2.2.2.2 i hi).1
      have e2 : (nI i).toNatClampNeg = i := nI_clamp (by omega)
      have v2 : vp_in (nI i) 12 := vp_in_nI (by omega) (by omega)
      refine zW_ok hj B26_19 19 _ _ _ _ _ b26_19 ?_
      simp only [B26_19, zW, z_wp1, z_ld, z_f0, z_f1, z_f2, z_f3, List.getElem?_cons_zero, List.getElem?_cons_succ, true_and, and_true, Int32.reduceOfInt, z_i10, z_i01, Int32.reduceLT, Int32.reduceLE, Int32.reduceAdd, Int32.reduceSub, z_set, z_set2, z_kil, List.set_cons_zero, List.set_cons_succ, List.take_succ_cons, List.take_zero, List.drop_succ_cons, List.drop_zero, List.reverse_cons, List.reverse_nil, List.nil_append, List.cons_append, List.getD_cons_succ, List.getD_cons_zero, List.getD_nil, List.length_cons, List.length_nil, List.map_cons, List.map_nil, List.sum_cons, List.sum_nil, Nat.reduceAdd, Nat.reduceLeDiff, Value.category, Option.toList, true_or, or_true, z_ua, ↓reduceIte, Nat.reduceEqDiff, eq_self, not_true_eq_false, not_false_eq_true, false_implies, true_implies, Classical.not_not, Nat.le_refl, Nat.zero_le, sK53 hS, sG53_1 hS, sK55 hS, sL55 hS, e, e2, v2, y1, ea, nI_1]
      try dsimp only
      subst hl
      refine z_callQ (ih a ha (by omega) ha0 (dep + 1) I2 (by omega) hX2 b2) (by omega) (by omega) (by omega) (Nat.le_of_ble_eq_true rfl) ?_
      rintro r h' ⟨rfl, I3, rfl, c1, c2⟩
      have ho3 : ∀ q, q ≠ pp → I3 q = I q := fun q hq => (c1 q hq).trans (b1 q hq)
      have hX3 := hX.congr ho3
      have y3 := (hX3.2.2.2.2.2.2.2.2.2.2.2 i hi).1
      simp only [zW, z_wp1, z_ld, z_f0, z_f1, z_f2, z_f3, List.getElem?_cons_zero, List.getElem?_cons_succ, true_and, and_true, Int32.reduceOfInt, z_i10, z_i01, Int32.reduceLT, Int32.reduceLE, Int32.reduceAdd, Int32.reduceSub, z_set, z_set2, z_kil, List.set_cons_zero, List.set_cons_succ, List.take_succ_cons, List.take_zero, List.drop_succ_cons, List.drop_zero, List.reverse_cons, List.reverse_nil, List.nil_append, List.cons_append, List.getD_cons_succ, List.getD_cons_zero, List.getD_nil, List.length_cons, List.length_nil, List.map_cons, List.map_nil, List.sum_cons, List.sum_nil, Nat.reduceAdd, Nat.reduceLeDiff, Value.category, Option.toList, true_or, or_true, z_ua, ↓reduceIte, Nat.reduceEqDiff, eq_self, not_true_eq_false, not_false_eq_true, false_implies, true_implies, Classical.not_not, Nat.le_refl, Nat.zero_le, sK53 hS, sG53_1 hS, sK55 hS, sL55 hS, e2, v2, y3, eb, nI_1]
      try dsimp only
      refine z_callQ (ih b hb (by omega) hb0 (dep + 1) I3 (by omega) hX3 c2) (by omega) (by omega) (by omega) (Nat.le_of_ble_eq_true rfl) ?_
      rintro r h' ⟨rfl, I4, rfl, d1, d2⟩
      simp only [zW, z_wp1, z_ld, z_f0, z_f1, z_f2, z_f3, List.getElem?_cons_zero, List.getElem?_cons_succ, true_and, and_true, Int32.reduceOfInt, z_i10, z_i01, Int32.reduceLT, Int32.reduceLE, Int32.reduceAdd, Int32.reduceSub, z_set, z_set2, z_kil, List.set_cons_zero, List.set_cons_succ, List.take_succ_cons, List.take_zero, List.drop_succ_cons, List.drop_zero, List.reverse_cons, List.reverse_nil, List.nil_append, List.cons_append, List.getD_cons_succ, List.getD_cons_zero, List.getD_nil, List.length_cons, List.length_nil, List.map_cons, List.map_nil, List.sum_cons, List.sum_nil, Nat.reduceAdd, Nat.reduceLeDiff, Value.category, Option.toList, true_or, or_true, z_ua, ↓reduceIte, Nat.reduceEqDiff, eq_self, not_true_eq_false, not_false_eq_true, false_implies, true_implies, Classical.not_not, Nat.le_refl, Nat.zero_le]
      try dsimp only
      refine hQ _ _ ⟨?_, I4, rfl, fun q hq => (d1 q hq).trans (ho3 q hq), d2⟩
      rw [eT, ea, eb, nI_clamp (by omega), nI_clamp (by omega)]
theorem c25 (hS : SS K L G) (hsF : s < 2 ^ F) (hs0 : s ≠ 0) (hX : XK K L G I pp PL F N R ys mb co) (hmm : k_memo I pp PL N R ys mb co) : z_Ctr l 28 25 [.ref 53, .int (nI s)] (n, K, L, I, J, G) 0 0 (fun r h' => r = some (.int (k_v ys mb co N s).2.2) ∧ ∃ I', h' = (n, K, L, I', J, G) ∧ (∀ q, q ≠ pp → I' q = I q) ∧ k_memo I' pp PL N R ys mb co) := by
  have h1 := k_sp_N ys (nI s) N
  have h2 := hX.2.2.2.2.2.2.2.1
  refine z_ctr (by decide) (by decide +kernel) (Nat.le_of_ble_eq_true rfl) (by decide +kernel) (fun X hl hj hd hm hs hsc hQ => ?_)
  show zV X 0 [some (.ref 53), some (.int (nI s))] [] _ 0 0
  refine zW_ok hj B25_0 0 _ _ _ _ _ b25_0 ?_
  simp only [B25_0, zW, z_wp1, z_ld, z_f0, z_f1, z_f2, z_f3, List.getElem?_cons_zero, List.getElem?_cons_succ, true_and, and_true, Int32.reduceOfInt, z_i10, z_i01, Int32.reduceLT, Int32.reduceLE, Int32.reduceAdd, Int32.reduceSub, z_set, z_set2, z_kil, List.set_cons_zero, List.set_cons_succ, List.take_succ_cons, List.take_zero, List.drop_succ_cons, List.drop_zero, List.reverse_cons, List.reverse_nil, List.nil_append, List.cons_append, List.getD_cons_succ, List.getD_cons_zero, List.getD_nil, List.length_cons, List.length_nil, List.map_cons, List.map_nil, List.sum_cons, List.sum_nil, Nat.reduceAdd, Nat.reduceLeDiff, Value.category, Option.toList, true_or, or_true, z_ua, ↓reduceIte, Nat.reduceEqDiff, eq_self, not_true_eq_false, not_false_eq_true, false_implies, true_implies, Classical.not_not, Nat.le_refl, Nat.zero_le, sK53 hS]
  try dsimp only
  refine z_callQ (c26 hS s hsF hs0 0 I (by omega) hX hmm) (by omega) (by omega) (by omega) (Nat.le_of_ble_eq_true rfl) ?_
  rintro r h' ⟨rfl, I2, rfl, a⟩
  simp only [zW, z_wp1, z_ld, z_f0, z_f1, z_f2, z_f3, List.getElem?_cons_zero, List.getElem?_cons_succ, true_and, and_true, Int32.reduceOfInt, z_i10, z_i01, Int32.reduceLT, Int32.reduceLE, Int32.reduceAdd, Int32.reduceSub, z_set, z_set2, z_kil, List.set_cons_zero, List.set_cons_succ, List.take_succ_cons, List.take_zero, List.drop_succ_cons, List.drop_zero, List.reverse_cons, List.reverse_nil, List.nil_append, List.cons_append, List.getD_cons_succ, List.getD_cons_zero, List.getD_nil, List.length_cons, List.length_nil, List.map_cons, List.map_nil, List.sum_cons, List.sum_nil, Nat.reduceAdd, Nat.reduceLeDiff, Value.category, Option.toList, true_or, or_true, z_ua, ↓reduceIte, Nat.reduceEqDiff, eq_self, not_true_eq_false, not_false_eq_true, false_implies, true_implies, Classical.not_not, Nat.le_refl, Nat.zero_le]
  try dsimp only
  exact hQ _ _ ⟨rfl, I2, rfl, a⟩
theorem c20 (hS : SS K L G) {i : Nat} (hi : i < 12) (c : Int32) : z_D l 0 20 [.ref 53, .int (nI i), .int c] (n, K, L, I, J, G) none (n, K, L, z_u (z_u I 54 i c) 53 6 (-1), J, G) := by
  have e2 : (nI i).toNatClampNeg = i := nI_clamp (by omega)
  have v2 : vp_in (nI i) 12 := vp_in_nI (by omega) (by omega)
  refine z_ctr (by decide) (by decide +kernel) (Nat.le_of_ble_eq_true rfl) (by decide +kernel) (fun X hl hj hd hm hs hsc hQ => ?_)
  show zV X 0 [some (.ref 53), some (.int (nI i)), some (.int c)] [] _ 0 0
  refine zW_ok hj B20_0 0 _ _ _ _ _ b20_0 ?_
  simp only [B20_0, zW, z_wp1, z_ld, z_f0, z_f1, z_f2, z_f3, List.getElem?_cons_zero, List.getElem?_cons_succ, true_and, and_true, Int32.reduceOfInt, z_i10, z_i01, Int32.reduceLT, Int32.reduceLE, Int32.reduceAdd, Int32.reduceSub, z_set, z_set2, z_kil, List.set_cons_zero, List.set_cons_succ, List.take_succ_cons, List.take_zero, List.drop_succ_cons, List.drop_zero, List.reverse_cons, List.reverse_nil, List.nil_append, List.cons_append, List.getD_cons_succ, List.getD_cons_zero, List.getD_nil, List.length_cons, List.length_nil, List.map_cons, List.map_nil, List.sum_cons, List.sum_nil, Nat.reduceAdd, Nat.reduceLeDiff, Value.category, Option.toList, true_or, or_true, z_ua, ↓reduceIte, Nat.reduceEqDiff, eq_self, not_true_eq_false, not_false_eq_true, false_implies, true_implies, Classical.not_not, Nat.le_refl, Nat.zero_le, sK53 hS, sG53_0 hS, sK54 hS, sL54 hS, e2, v2]
  try dsimp only
  exact hQ _ _ ⟨rfl, rfl⟩
theorem c28 (hS : SS K L G) {LL : List Int32} (h1 : I 53 8 = nI LL.length) (h2 : m_lst (I 58) LL) (hlen : LL.length ≤ 12) (k b : Int32) : z_D l 0 28 [.ref 53, .int k, .int b] (n, K, L, I, J, G) (some (.int (if b = 0 then -1 else m_nth LL k))) (n, K, L, I, J, G) := by
  refine z_ctr (by decide) (by decide +kernel) (Nat.le_of_ble_eq_true rfl) (by decide +kernel) (fun X hl hj hd hm hs hsc hQ => ?_)
  show zV X 0 [some (.ref 53), some (.int k), some (.int b)] [] _ 0 0
  have no : (b = 0 ∨ ¬ (0 ≤ k ∧ k < nI LL.length)) → zV X 25 [some (.ref 53), some (.int k), some (.int b)] [] (n, K, L, I, J, G) 0 0 := by
    intro h
    refine zW_ok hj B28_25 25 _ _ _ _ _ b28_25 ?_
    simp only [B28_25, zW, z_wp1, z_ld, z_f0, z_f1, z_f2, z_f3, List.getElem?_cons_zero, List.getElem?_cons_succ, true_and, and_true, Int32.reduceOfInt, z_i10, z_i01, Int32.reduceLT, Int32.reduceLE, Int32.reduceAdd, Int32.reduceSub, z_set, z_set2, z_kil, List.set_cons_zero, List.set_cons_succ, List.take_succ_cons, List.take_zero, List.drop_succ_cons, List.drop_zero, List.reverse_cons, List.reverse_nil, List.nil_append, List.cons_append, List.getD_cons_succ, List.getD_cons_zero, List.getD_nil, List.length_cons, List.length_nil, List.map_cons, List.map_nil, List.sum_cons, List.sum_nil, Nat.reduceAdd, Nat.reduceLeDiff, Value.category, Option.toList, true_or, or_true, z_ua, ↓reduceIte, Nat.reduceEqDiff, eq_self, not_true_eq_false, not_false_eq_true, false_implies, true_implies, Classical.not_not, Nat.le_refl, Nat.zero_le]
    try dsimp only
    refine zW_ok hj B28_26 26 _ _ _ _ _ b28_26 ?_
    simp only [B28_26, zW, z_wp1, z_ld, z_f0, z_f1, z_f2, z_f3, List.getElem?_cons_zero, List.getElem?_cons_succ, true_and, and_true, Int32.reduceOfInt, z_i10, z_i01, Int32.reduceLT, Int32.reduceLE, Int32.reduceAdd, Int32.reduceSub, z_set, z_set2, z_kil, List.set_cons_zero, List.set_cons_succ, List.take_succ_cons, List.take_zero, List.drop_succ_cons, List.drop_zero, List.reverse_cons, List.reverse_nil, List.nil_append, List.cons_append, List.getD_cons_succ, List.getD_cons_zero, List.getD_nil, List.length_cons, List.length_nil, List.map_cons, List.map_nil, List.sum_cons, List.sum_nil, Nat.reduceAdd, Nat.reduceLeDiff, Value.category, Option.toList, true_or, or_true, z_ua, ↓reduceIte, Nat.reduceEqDiff, eq_self, not_true_eq_false, not_false_eq_true, false_implies, true_implies, Classical.not_not, Nat.le_refl, Nat.zero_le]
    try dsimp only
    refine hQ _ _ ⟨?_, rfl⟩
    by_cases hb : b = 0
    · rw [if_pos hb]
    · rw [if_neg hb, m_nth, if_neg (h.resolve_left hb)]
  refine zW_ok hj B28_0 0 _ _ _ _ _ b28_0 ?_
  simp only [B28_0, zW, z_wp1, z_ld, z_f0, z_f1, z_f2, z_f3, List.getElem?_cons_zero, List.getElem?_cons_succ, true_and, and_true, Int32.reduceOfInt, z_i10, z_i01, Int32.reduceLT, Int32.reduceLE, Int32.reduceAdd, Int32.reduceSub, z_set, z_set2, z_kil, List.set_cons_zero, List.set_cons_succ, List.take_succ_cons, List.take_zero, List.drop_succ_cons, List.drop_zero, List.reverse_cons, List.reverse_nil, List.nil_append, List.cons_append, List.getD_cons_succ, List.getD_cons_zero, List.getD_nil, List.length_cons, List.length_nil, List.map_cons, List.map_nil, List.sum_cons, List.sum_nil, Nat.reduceAdd, Nat.reduceLeDiff, Value.category, Option.toList, true_or, or_true, z_ua, ↓reduceIte, Nat.reduceEqDiff, eq_self, not_true_eq_false, not_false_eq_true, false_implies, true_implies, Classical.not_not, Nat.le_refl, Nat.zero_le, sK53 hS, h1]
  try dsimp only
  refine ⟨fun h => no (Or.inl h), fun hb => ⟨fun h => no (Or.inr (fun q => Int32.not_lt.mpr q.1 h)), fun h => ⟨fun h' => no (Or.inr (fun q => Int32.not_le.mpr q.2 h')), fun h' => ?_⟩⟩⟩
  have h4 : 0 ≤ k ∧ k < nI LL.length := ⟨Int32.not_lt.mp h, Int32.not_le.mp h'⟩
  obtain ⟨hlt, hin⟩ := z_ix2 (m := 12) (by omega) hlen h4
  simp only [zW, z_wp1, z_ld, z_f0, z_f1, z_f2, z_f3, List.getElem?_cons_zero, List.getElem?_cons_succ, true_and, and_true, Int32.reduceOfInt, z_i10, z_i01, Int32.reduceLT, Int32.reduceLE, Int32.reduceAdd, Int32.reduceSub, z_set, z_set2, z_kil, List.set_cons_zero, List.set_cons_succ, List.take_succ_cons, List.take_zero, List.drop_succ_cons, List.drop_zero, List.reverse_cons, List.reverse_nil, List.nil_append, List.cons_append, List.getD_cons_succ, List.getD_cons_zero, List.getD_nil, List.length_cons, List.length_nil, List.map_cons, List.map_nil, List.sum_cons, List.sum_nil, Nat.reduceAdd, Nat.reduceLeDiff, Value.category, Option.toList, true_or, or_true, z_ua, ↓reduceIte, Nat.reduceEqDiff, eq_self, not_true_eq_false, not_false_eq_true, false_implies, true_implies, Classical.not_not, Nat.le_refl, Nat.zero_le, sG53_7 hS, sK58 hS, sL58 hS, hin]
  try dsimp only
  refine zW_ok hj B28_26 26 _ _ _ _ _ b28_26 ?_
  simp only [B28_26, zW, z_wp1, z_ld, z_f0, z_f1, z_f2, z_f3, List.getElem?_cons_zero, List.getElem?_cons_succ, true_and, and_true, Int32.reduceOfInt, z_i10, z_i01, Int32.reduceLT, Int32.reduceLE, Int32.reduceAdd, Int32.reduceSub, z_set, z_set2, z_kil, List.set_cons_zero, List.set_cons_succ, List.take_succ_cons, List.take_zero, List.drop_succ_cons, List.drop_zero, List.reverse_cons, List.reverse_nil, List.nil_append, List.cons_append, List.getD_cons_succ, List.getD_cons_zero, List.getD_nil, List.length_cons, List.length_nil, List.map_cons, List.map_nil, List.sum_cons, List.sum_nil, Nat.reduceAdd, Nat.reduceLeDiff, Value.category, Option.toList, true_or, or_true, z_ua, ↓reduceIte, Nat.reduceEqDiff, eq_self, not_true_eq_false, not_false_eq_true, false_implies, true_implies, Classical.not_not, Nat.le_refl, Nat.zero_le]
  try dsimp only
  refine hQ _ _ ⟨?_, rfl⟩
  have e := List.getElem?_eq_getElem hlt
  rw [if_neg hb, m_nth, if_pos h4, List.getD_eq_getElem?_getD, e, h2 _ _ e]
  rfl
end KT3
