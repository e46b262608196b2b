/-! Keys of the class: the way of a find -/
theorem k_sum_snoc (co : Nat → Int32) (i : Nat) : ∀ (L : List Nat) (a : Int32), k_sum co (L ++ [i]) a = k_sum co L a + co i
  | [], a => rfl
  | x :: r, a => by
    show k_sum co (r ++ [i]) (a + co x) = k_sum co r (a + co x) + co i
    exact k_sum_snoc co i r _
theorem XK.congr2 {K L : Nat → Nat} {G : Nat → Nat → Value} {I I' : Nat → Nat → Int32} {pp PL F N R : Nat} {ys mb co : Nat → Int32} (h : XK K L G I pp PL F N R ys mb co) (h1 : ∀ q, q ≠ pp → q ≠ 53 → q ≠ 58 → I' q = I q) (h3 : I' 53 3 = I 53 3) (h5 : I' 53 5 = I 53 5) : XK K L G I' pp PL F N R ys mb co := by
  obtain ⟨a1, a2, a3, a4, a5, a6, a7, a8, a9, a10, a11, a12⟩ := h
  refine ⟨a1, a2, a3, a4, a5, a6, by rw [h3]; exact a7, a8, a9, by rw [h5]; exact a10, a11, fun i hi => ?_⟩
  rw [h1 55 (by omega) (by omega) (by omega), h1 56 (by omega) (by omega) (by omega), h1 54 (by omega) (by omega) (by omega)]
  exact a12 i hi
section KT4
variable {l : Launch} {n : Nat} {K L : Nat → Nat} {I : Nat → Nat → Int32} {J : Nat → Nat → Int64} {G : Nat → Nat → Value} {pp PL F N R s : Nat} {ys mb co : Nat → Int32}
theorem c27_loop {X : zX} (hS : SS K L G) (hj : X.2.1 = 27) (hd : X.2.2.1 = 15) (hm : X.2.2.2.1 = 0) (hs : X.2.2.2.2.1 = 0) (hX : XK K L G I pp PL F N R ys mb co) {f : Nat} (hf : f < 16) {set : Int32} {P : List Nat × Nat} (hQ : ∀ r h', (r = none ∧ ∃ I', h' = (n, K, L, I', J, G) ∧ (∀ q, q ≠ pp → q ≠ 53 → q ≠ 58 → I' q = I q) ∧ (∀ k, k ≠ 8 → k ≠ 9 → k ≠ 10 → I' 53 k = I 53 k) ∧ k_memo I' pp PL N R ys mb co ∧ I' 53 8 = nI P.1.length ∧ I' 53 9 = k_sum co P.1 0 ∧ I' 53 10 = nI P.2 ∧ m_lst (I' 58) (P.1.map nI)) → X.2.2.2.2.2.2 r h') : ∀ (k j : Nat) (I' : Nat → Nat → Int32) (acc : List Nat) (s : Nat), j + k = 12 → acc.length = j → s ≠ 0 → s < 2 ^ F → (∀ q, q ≠ pp → q ≠ 53 → q ≠ 58 → I' q = I q) → (∀ k, k ≠ 8 → k ≠ 9 → k ≠ 10 → I' 53 k = I 53 k) → k_memo I' pp PL N R ys mb co → I' 53 8 = nI j → I' 53 9 = k_sum co acc 0 → I' 53 10 = nI s → m_lst (I' 58) (acc.map nI) → (acc ++ (k_pt (k_v ys mb co N) ys f k s).1, (k_pt (k_v ys mb co N) ys f k s).2) = P → zV X 24 [some (.ref 53), some (.int set), some (.int (nI f)), some (.int (k_v ys mb co N s).2.1)] [] (n, K, L, I', J, G) 0 0
  | 0, j, I', acc, s, hk, hl, hs0, hsF, ho, ho2, hmm, h8, h9, h10, h58, hP => by
    have e : j = 12 := by omega
    subst e
    have fin : zV X 124 [some (.ref 53), some (.int set), some (.int (nI f)), some (.int (k_v ys mb co N s).2.1)] [] (n, K, L, I', J, G) 0 0 := by
      refine zW_ok hj B27_124 124 _ _ _ _ _ b27_124 ?_
      simp only [B27_124, zW, z_wp1, z_ld, z_f0, z_f1, z_f2, z_f3, List.getElem?_cons_zero, List.getElem?_cons_succ, true_and, and_true, Int32.reduceOfInt, z_i10, z_i01, Int32.reduceLT, Int32.reduceLE, Int32.reduceAdd, Int32.reduceSub, z_set, z_set2, z_kil, List.set_cons_zero, List.set_cons_succ, List.take_succ_cons, List.take_zero, List.drop_succ_cons, List.drop_zero, List.reverse_cons, List.reverse_nil, List.nil_append, List.cons_append, List.getD_cons_succ, List.getD_cons_zero, List.getD_nil, List.length_cons, List.length_nil, List.map_cons, List.map_nil, List.sum_cons, List.sum_nil, Nat.reduceAdd, Nat.reduceLeDiff, Value.category, Option.toList, true_or, or_true, z_ua, ↓reduceIte, Nat.reduceEqDiff, eq_self, not_true_eq_false, not_false_eq_true, false_implies, true_implies, Classical.not_not, Nat.le_refl, Nat.zero_le]
      try dsimp only
      refine hQ _ _ ⟨rfl, I', rfl, ho, ho2, hmm, ?_⟩
      rw [← hP]
      simp only [k_pt, List.append_nil]
      exact ⟨by rw [hl]; exact h8, h9, h10, h58⟩
    refine zW_ok hj B27_24 24 _ _ _ _ _ b27_24 ?_
    simp only [B27_24, zW, z_wp1, z_ld, z_f0, z_f1, z_f2, z_f3, List.getElem?_cons_zero, List.getElem?_cons_succ, true_and, and_true, Int32.reduceOfInt, z_i10, z_i01, Int32.reduceLT, Int32.reduceLE, Int32.reduceAdd, Int32.reduceSub, z_set, z_set2, z_kil, List.set_cons_zero, List.set_cons_succ, List.take_succ_cons, List.take_zero, List.drop_succ_cons, List.drop_zero, List.reverse_cons, List.reverse_nil, List.nil_append, List.cons_append, List.getD_cons_succ, List.getD_cons_zero, List.getD_nil, List.length_cons, List.length_nil, List.map_cons, List.map_nil, List.sum_cons, List.sum_nil, Nat.reduceAdd, Nat.reduceLeDiff, Value.category, Option.toList, true_or, or_true, z_ua, ↓reduceIte, Nat.reduceEqDiff, eq_self, not_true_eq_false, not_false_eq_true, false_implies, true_implies, Classical.not_not, Nat.le_refl, Nat.zero_le, sK53 hS, h8]
    try dsimp only
    exact ⟨fun _ => fin, fun _ => ⟨fun _ => fin, fun hc => absurd (show (12 : Int32) ≤ nI 12 by decide) hc⟩⟩
  | k + 1, j, I', acc, s, hk, hl, hs0, hsF, ho, ho2, hmm, h8, h9, h10, h58, hP => by
    have hX' := hX.congr2 ho (ho2 3 (by omega) (by omega) (by omega)) (ho2 5 (by omega) (by omega) (by omega))
    obtain ⟨a1, a2, a3, a4, a5, a6, a7, a8, a9, a10, a11, a12⟩ := id hX'
    have hp := z_powF a9
    have hkv := k_v_eq ys mb co N (s := s) (by omega)
    have hask := k_st_ask ys mb co (k_v ys mb co N) (nI s) N
    rw [← hkv] at hask
    by_cases hend : (k_v ys mb co N s).2.1 = -1
    · refine zW_ok hj B27_24 24 _ _ _ _ _ b27_24 ?_
      simp only [B27_24, zW, z_wp1, z_ld, z_f0, z_f1, z_f2, z_f3, List.getElem?_cons_zero, List.getElem?_cons_succ, true_and, and_true, Int32.reduceOfInt, z_i10, z_i01, Int32.reduceLT, Int32.reduceLE, Int32.reduceAdd, Int32.reduceSub, z_set, z_set2, z_kil, List.set_cons_zero, List.set_cons_succ, List.take_succ_cons, List.take_zero, List.drop_succ_cons, List.drop_zero, List.reverse_cons, List.reverse_nil, List.nil_append, List.cons_append, List.getD_cons_succ, List.getD_cons_zero, List.getD_nil, List.length_cons, List.length_nil, List.map_cons, List.map_nil, List.sum_cons, List.sum_nil, Nat.reduceAdd, Nat.reduceLeDiff, Value.category, Option.toList, true_or, or_true, z_ua, ↓reduceIte, Nat.reduceEqDiff, eq_self, not_true_eq_false, not_false_eq_true, false_implies, true_implies, Classical.not_not, Nat.le_refl, Nat.zero_le, sK53 hS, hend]
      try dsimp only
      refine zW_ok hj B27_124 124 _ _ _ _ _ b27_124 ?_
      simp only [B27_124, zW, z_wp1, z_ld, z_f0, z_f1, z_f2, z_f3, List.getElem?_cons_zero, List.getElem?_cons_succ, true_and, and_true, Int32.reduceOfInt, z_i10, z_i01, Int32.reduceLT, Int32.reduceLE, Int32.reduceAdd, Int32.reduceSub, z_set, z_set2, z_kil, List.set_cons_zero, List.set_cons_succ, List.take_succ_cons, List.take_zero, List.drop_succ_cons, List.drop_zero, List.reverse_cons, List.reverse_nil, List.nil_append, List.cons_append, List.getD_cons_succ, List.getD_cons_zero, List.getD_nil, List.length_cons, List.length_nil, List.map_cons, List.map_nil, List.sum_cons, List.sum_nil, Nat.reduceAdd, Nat.reduceLeDiff, Value.category, Option.toList, true_or, or_true, z_ua, ↓reduceIte, Nat.reduceEqDiff, eq_self, not_true_eq_false, not_false_eq_true, false_implies, true_implies, Classical.not_not, Nat.le_refl, Nat.zero_le]
      try dsimp only
      refine hQ _ _ ⟨rfl, I', rfl, ho, ho2, hmm, ?_⟩
      rw [← hP, k_pt, if_pos hend]
      simp only [List.append_nil]
      exact ⟨by rw [hl]; exact h8, h9, h10, h58⟩
    · obtain ⟨i, hi, e, hok, _, _⟩ := hask.resolve_left hend
      obtain ⟨a, b, ea, eb, ha, hb, ha0, hb0, ba, bb⟩ := k_part (by omega) hok
      have ht := k_to_eq (mb := mb) (f := f) (by omega) ea eb ha hb
      obtain ⟨y1, y2, y3, -⟩ := a12 i hi
      have e1 : ¬ nI i = -1 := nI_m1 (by omega)
      have e2 : (nI i).toNatClampNeg = i := nI_clamp (by omega)
      have v2 : vp_in (nI i) 12 := vp_in_nI (by omega) (by omega)
      have e6 : (nI j).toNatClampNeg = j := nI_clamp (by omega)
      have v6 : vp_in (nI j) 12 := vp_in_nI (by omega) (by omega)
      have e8 : ¬ (12 : Int32) ≤ nI j := fun q => by
        have := (nI_leI (a := 12) (b := j) (by omega) (by omega)).mp q
        omega
      rw [k_pt, if_neg hend, e, e2] at hP
      rw [e]
      -- behind the choice of the part
      have fin : ∀ (y : Int32) (t : Nat), (t = a ∨ t = b) → nI s &&& y = nI t → t = k_to ys f i s → zV X 108 [some (.ref 53), some (.int set), some (.int (nI f)), some (.int (nI i))] [.int y, .int (nI s), .ref 53] (n, K, L, z_u (z_u (z_u I' 58 j (nI i)) 53 8 (nI (j + 1))) 53 9 (k_sum co acc 0 + co i), J, G) 0 0 := by
        intro y t htab hy hto
        refine zW_ok hj B27_108 108 _ _ _ _ _ b27_108 ?_
        simp only [B27_108, zW, z_wp1, z_ld, z_f0, z_f1, z_f2, z_f3, List.getElem?_cons_zero, List.getElem?_cons_succ, true_and, and_true, Int32.reduceOfInt, z_i10, z_i01, Int32.reduceLT, Int32.reduceLE, Int32.reduceAdd, Int32.reduceSub, z_set, z_set2, z_kil, List.set_cons_zero, List.set_cons_succ, List.take_succ_cons, List.take_zero, List.drop_succ_cons, List.drop_zero, List.reverse_cons, List.reverse_nil, List.nil_append, List.cons_append, List.getD_cons_succ, List.getD_cons_zero, List.getD_nil, List.length_cons, List.length_nil, List.map_cons, List.map_nil, List.sum_cons, List.sum_nil, Nat.reduceAdd, Nat.reduceLeDiff, Value.category, Option.toList, true_or, or_true, z_ua, ↓reduceIte, Nat.reduceEqDiff, eq_self, not_true_eq_false, not_false_eq_true, false_implies, true_implies, Classical.not_not, Nat.le_refl, Nat.zero_le, sK53 hS, hy]
        try dsimp only
        generalize hI2 : z_u (z_u (z_u (z_u I' 58 j (nI i)) 53 8 (nI (j + 1))) 53 9 (k_sum co acc 0 + co i)) 53 10 (nI t) = I2
        have g1 : ∀ q, q ≠ 53 → q ≠ 58 → I2 q = I' q := fun q b c => by rw [← hI2, z_u_ne b, z_u_ne b, z_u_ne b, z_u_ne c]
        have g2 : ∀ k, k ≠ 8 → k ≠ 9 → k ≠ 10 → I2 53 k = I' 53 k := fun k b c d => by rw [← hI2]; simp [z_u, b, c, d]
        have g8 : I2 53 8 = nI (j + 1) := by rw [← hI2]; simp [z_u]
        have g9 : I2 53 9 = k_sum co acc 0 + co i := by rw [← hI2]; simp [z_u]
        have g10 : I2 53 10 = nI t := by rw [← hI2]; simp [z_u]
        have g58 : ∀ k, I2 58 k = if k = j then nI i else I' 58 k := fun k => by rw [← hI2]; simp [z_u]
        have hmm2 : k_memo I2 pp PL N R ys mb co := by
          unfold k_memo
          rw [g1 pp (by omega) (by omega)]
          exact hmm
        have hX2 := hX'.congr2 (I' := I2) (fun q a b c => g1 q b c) (g2 3 (by omega) (by omega) (by omega)) (g2 5 (by omega) (by omega) (by omega))
        refine z_callQ (c23 (I := I2) (s := t) hS (by omega) (by omega) hX2 hmm2) (by omega) (by omega) (by omega) (Nat.le_of_ble_eq_true rfl) ?_
        rintro r h' ⟨rfl, I3, rfl, c1, c2⟩
        have p53 : (53 : Nat) ≠ pp := by omega
        have p58 : (58 : Nat) ≠ pp := by omega
        simp only [zW, z_wp1, z_ld, z_f0, z_f1, z_f2, z_f3, List.getElem?_cons_zero, List.getElem?_cons_succ, true_and, and_true, Int32.reduceOfInt, z_i10, z_i01, Int32.reduceLT, Int32.reduceLE, Int32.reduceAdd, Int32.reduceSub, z_set, z_set2, z_kil, List.set_cons_zero, List.set_cons_succ, List.take_succ_cons, List.take_zero, List.drop_succ_cons, List.drop_zero, List.reverse_cons, List.reverse_nil, List.nil_append, List.cons_append, List.getD_cons_succ, List.getD_cons_zero, List.getD_nil, List.length_cons, List.length_nil, List.map_cons, List.map_nil, List.sum_cons, List.sum_nil, Nat.reduceAdd, Nat.reduceLeDiff, Value.category, Option.toList, true_or, or_true, z_ua, ↓reduceIte, Nat.reduceEqDiff, eq_self, not_true_eq_false, not_false_eq_true, false_implies, true_implies, Classical.not_not, Nat.le_refl, Nat.zero_le]
        try dsimp only
        refine c27_loop hS hj hd hm hs hX hf hQ k (j + 1) I3 (acc ++ [i]) t (by omega) (by simp; omega) (by omega) (by omega) (fun q a b c => by rw [c1 q a, g1 q b c]; exact ho q a b c) (fun k a b c => by rw [c1 53 p53, g2 k a b c]; exact ho2 k a b c) c2 (by rw [c1 53 p53]; exact g8) (by rw [c1 53 p53, k_sum_snoc]; exact g9) (by rw [c1 53 p53]; exact g10) ?_ ?_
        · rw [c1 58 p58, List.map_append]
          refine m_lst_add h58 (by rw [g58]; simp [hl]) (fun t ht => ?_)
          simp at ht
          rw [g58, if_neg (by omega)]
        · rw [← hP, ← hto]
          simp
      refine zW_ok hj B27_24 24 _ _ _ _ _ b27_24 ?_
      simp only [B27_24, zW, z_wp1, z_ld, z_f0, z_f1, z_f2, z_f3, List.getElem?_cons_zero, List.getElem?_cons_succ, true_and, and_true, Int32.reduceOfInt, z_i10, z_i01, Int32.reduceLT, Int32.reduceLE, Int32.reduceAdd, Int32.reduceSub, z_set, z_set2, z_kil, List.set_cons_zero, List.set_cons_succ, List.take_succ_cons, List.take_zero, List.drop_succ_cons, List.drop_zero, List.reverse_cons, List.reverse_nil, List.nil_append, List.cons_append, List.getD_cons_succ, List.getD_cons_zero, List.getD_nil, List.length_cons, List.length_nil, List.map_cons, List.map_nil, List.sum_cons, List.sum_nil, Nat.reduceAdd, Nat.reduceLeDiff, Value.category, Option.toList, true_or, or_true, z_ua, ↓reduceIte, Nat.reduceEqDiff, eq_self, not_true_eq_false, not_false_eq_true, false_implies, true_implies, Classical.not_not, Nat.le_refl, Nat.zero_le, sK53 hS, sG53_7 hS, sK58 hS, sL58 hS, sG53_0 hS, sK54 hS, sL54 hS, sG53_1 hS, sK55 hS, sL55 hS, e1, h8, e8, e6, v6, e2, v2, h9, h10, y1, y3, nI_1]
      try dsimp only
      refine ⟨fun h => ?_, fun h => fin (ys i) a (Or.inl rfl) ea (ht.1 ?_).symm⟩
      · refine zW_ok hj B27_100 100 _ _ _ _ _ b27_100 ?_
        simp only [B27_100, zW, z_wp1, z_ld, z_f0, z_f1, z_f2, z_f3, List.getElem?_cons_zero, List.getElem?_cons_succ, true_and, and_true, Int32.reduceOfInt, z_i10, z_i01, Int32.reduceLT, Int32.reduceLE, Int32.reduceAdd, Int32.reduceSub, z_set, z_set2, z_kil, List.set_cons_zero, List.set_cons_succ, List.take_succ_cons, List.take_zero, List.drop_succ_cons, List.drop_zero, List.reverse_cons, List.reverse_nil, List.nil_append, List.cons_append, List.getD_cons_succ, List.getD_cons_zero, List.getD_nil, List.length_cons, List.length_nil, List.map_cons, List.map_nil, List.sum_cons, List.sum_nil, Nat.reduceAdd, Nat.reduceLeDiff, Value.category, Option.toList, true_or, or_true, z_ua, ↓reduceIte, Nat.reduceEqDiff, eq_self, not_true_eq_false, not_false_eq_true, false_implies, true_implies, Classical.not_not, Nat.le_refl, Nat.zero_le, sK53 hS, sG53_1 hS, sK55 hS, sL55 hS, e2, v2, y1]
        try dsimp only
        exact fin _ b (Or.inr rfl) eb (ht.2 (fun q => by rw [h] at q; exact absurd q (by decide))).symm
      · rw [zb_get0 (by omega)] at h
        rw [zb_get1 (by omega)]
        simpa using h
theorem c27 (hS : SS K L G) (hsF : s < 2 ^ F) (hs0 : s ≠ 0) (hX : XK K L G I pp PL F N R ys mb co) (hmm : k_memo I pp PL N R ys mb co) {f : Nat} (hf : f < 16) : z_Ctr l 15 27 [.ref 53, .int (nI s), .int (nI f)] (n, K, L, I, J, G) 0 0 (fun r h' => r = none ∧ ∃ I', h' = (n, K, L, I', J, G) ∧ (∀ q, q ≠ pp → q ≠ 53 → q ≠ 58 → I' q = I q) ∧ (∀ k, k ≠ 8 → k ≠ 9 → k ≠ 10 → I' 53 k = I 53 k) ∧ k_memo I' pp PL N R ys mb co ∧ I' 53 8 = nI (k_pt (k_v ys mb co N) ys f 12 s).1.length ∧ I' 53 9 = k_sum co (k_pt (k_v ys mb co N) ys f 12 s).1 0 ∧ I' 53 10 = nI (k_pt (k_v ys mb co N) ys f 12 s).2 ∧ m_lst (I' 58) ((k_pt (k_v ys mb co N) ys f 12 s).1.map nI)) := by
  have hpp := hX.2.2.2.2.2.1
  have p53 : (53 : Nat) ≠ pp := by omega
  refine z_ctr (by decide) (by decide +kernel) (Nat.le_of_ble_eq_true rfl) (by decide +kernel) (fun X hl hj hd hm hs hsc hQ => ?_)
  show zV X 0 [some (.ref 53), some (.int (nI s)), some (.int (nI f)), none] [] _ 0 0
  refine zW_ok hj B27_0 0 _ _ _ _ _ b27_0 ?_
  simp only [B27_0, zW, z_wp1, z_ld, z_f0, z_f1, z_f2, z_f3, List.getElem?_cons_zero, List.getElem?_cons_succ, true_and, and_true, Int32.reduceOfInt, z_i10, z_i01, Int32.reduceLT, Int32.reduceLE, Int32.reduceAdd, Int32.reduceSub, z_set, z_set2, z_kil, List.set_cons_zero, List.set_cons_succ, List.take_succ_cons, List.take_zero, List.drop_succ_cons, List.drop_zero, List.reverse_cons, List.reverse_nil, List.nil_append, List.cons_append, List.getD_cons_succ, List.getD_cons_zero, List.getD_nil, List.length_cons, List.length_nil, List.map_cons, List.map_nil, List.sum_cons, List.sum_nil, Nat.reduceAdd, Nat.reduceLeDiff, Value.category, Option.toList, true_or, or_true, z_ua, ↓reduceIte, Nat.reduceEqDiff, eq_self, not_true_eq_false, not_false_eq_true, false_implies, true_implies, Classical.not_not, Nat.le_refl, Nat.zero_le, sK53 hS]
  try dsimp only
  generalize hI2 : z_u (z_u (z_u I 53 8 0) 53 9 0) 53 10 (nI s) = I2
  have g1 : ∀ q, q ≠ 53 → I2 q = I q := fun q b => by rw [← hI2, z_u_ne b, z_u_ne b, z_u_ne b]
  have g2 : ∀ k, k ≠ 8 → k ≠ 9 → k ≠ 10 → I2 53 k = I 53 k := fun k b c d => by rw [← hI2]; simp [z_u, b, c, d]
  have g8 : I2 53 8 = nI 0 := by rw [← hI2]; simp [z_u, nI_0]
  have g9 : I2 53 9 = 0 := by rw [← hI2]; simp [z_u]
  have g10 : I2 53 10 = nI s := by rw [← hI2]; simp [z_u]
  have hmm2 : k_memo I2 pp PL N R ys mb co := by
    unfold k_memo
    rw [g1 pp (by omega)]
    exact hmm
  have hX2 := hX.congr2 (I' := I2) (fun q a b c => g1 q b) (g2 3 (by omega) (by omega) (by omega)) (g2 5 (by omega) (by omega) (by omega))
  refine z_callQ (c23 (I := I2) (s := s) hS hsF hs0 hX2 hmm2) (by omega) (by omega) (by omega) (Nat.le_of_ble_eq_true rfl) ?_
  rintro r h' ⟨rfl, I3, rfl, c1, c2⟩
  simp only [zW, z_wp1, z_ld, z_f0, z_f1, z_f2, z_f3, List.getElem?_cons_zero, List.getElem?_cons_succ, true_and, and_true, Int32.reduceOfInt, z_i10, z_i01, Int32.reduceLT, Int32.reduceLE, Int32.reduceAdd, Int32.reduceSub, z_set, z_set2, z_kil, List.set_cons_zero, List.set_cons_succ, List.take_succ_cons, List.take_zero, List.drop_succ_cons, List.drop_zero, List.reverse_cons, List.reverse_nil, List.nil_append, List.cons_append, List.getD_cons_succ, List.getD_cons_zero, List.getD_nil, List.length_cons, List.length_nil, List.map_cons, List.map_nil, List.sum_cons, List.sum_nil, Nat.reduceAdd, Nat.reduceLeDiff, Value.category, Option.toList, true_or, or_true, z_ua, ↓reduceIte, Nat.reduceEqDiff, eq_self, not_true_eq_false, not_false_eq_true, false_implies, true_implies, Classical.not_not, Nat.le_refl, Nat.zero_le]
  try dsimp only
  exact c27_loop (I := I) hS hj hd hm hs hX hf hQ 12 0 I3 [] s rfl rfl hs0 hsF (fun q a b c => by rw [c1 q a]; exact g1 q b) (fun k a b c => by rw [c1 53 p53]; exact g2 k a b c) c2 (by rw [c1 53 p53]; exact g8) (by rw [c1 53 p53]; exact g9) (by rw [c1 53 p53]; exact g10) (fun t x h => by simp at h) (by simp)
end KT4
