/-! The class's tokens: words -/
theorem z_invT {X : zX} {j pc i j' d' b uc us : Nat} {ls : List (Option Value)} {as rest : List Value} {h : zH} {v : Option Value} (hj : X.2.1 = j) (hd : decode (z_C j) pc = .ok (.invokevirtual i, 3)) (hj' : j' < 258) (hl : (z_O j, i, j') ∈ z_ml) (hkd : z_Kd j' = 1) (hcl : z_O j' = 15) (h1 : 1 ≤ b) (h4 : b ≤ 4) (hn : as.length = z_An j') (hrs : (rest.map (fun v => v.category)).sum ≤ 8) (hdd : d' < X.2.2.1) (hct : z_D X.1 d' j' (.ref b :: as) h v h) (hc : uc ≤ X.2.2.2.1) (hs : us ≤ X.2.2.2.2.1) (kk : zV X (pc + 3) ls (v.toList ++ rest) h uc us) : zV X pc ls (as.reverse ++ .ref b :: rest) h uc us := by
  subst hj
  exact z_s_invT hd hj' hl hkd hcl h1 h4 hn hrs hdd hct hc hs (fun r h' q => by obtain ⟨rfl, rfl⟩ := q; exact kk)
theorem z_ldcT {X : zX} {j pc i q uc us : Nat} {ls : List (Option Value)} {st : List Value} {h : zH} (hj : X.2.1 = j) (hd : decode (z_C j) pc = .ok (.ldc i, 2)) (ho : z_O j = 9) (hc : (i = 62 ∧ q = 1) ∨ (i = 68 ∧ q = 2) ∨ (i = 70 ∧ q = 3) ∨ (i = 72 ∧ q = 4)) (kk : zV X (pc + 2) ls (.ref q :: st) h uc us) : zV X pc ls st h uc us := by
  subst hj
  exact z_s_ldcS hd ho hc kk
theorem z_lk246 : ((9, 74, 246) : Nat × Nat × Nat) ∈ z_ml := by decide +kernel
theorem z_lk247 : ((9, 80, 247) : Nat × Nat × Nat) ∈ z_ml := by decide +kernel
section TOK2
variable {l : Launch} {n : Nat} {K L : Nat → Nat} {I : Nat → Nat → Int32} {J : Nat → Nat → Int64} {G : Nat → Nat → Value} {la : Nat} {b a e : Nat}
theorem c111_loop {X : zX} (hS : SS K L G) (hj : X.2.1 = 111) (hdp : X.2.2.1 = 4) (hm : X.2.2.2.1 = 0) (hs : X.2.2.2.2.1 = 0) (h1 : 1 ≤ b) (h4 : b ≤ 4) (he : e = a + z_len b) (he8 : e ≤ 800) (hQ : ∀ r h', (r = some (.int (if p_sp (I 59) a e (z_byt b) = true then 1 else 0)) ∧ h' = (n, K, L, I, J, G)) → X.2.2.2.2.2.2 r h') : ∀ (f k : Nat), k + f = z_len b → (∀ i c, i < k → (z_byt b)[i]? = some c → I 59 (a + i) = c) → zV X 15 [some (.ref b), some (.ref 59), some (.int (nI a)), some (.int (nI e)), some (.int (nI k))] [] (n, K, L, I, J, G) 0 0 := by
  obtain ⟨hz6, hzl⟩ := z_len_in h1 h4
  have hO : z_O 111 = 9 := by decide +kernel
  intro f
  induction f with
  | zero =>
    intro k hk hp
    have ek : k = z_len b := by omega
    have le : nI (z_len b) ≤ nI k := by rw [ek]; exact nI_le (Nat.le_refl _) (by omega)
    have sp : p_sp (I 59) a e (z_byt b) = true := by
      unfold p_sp
      rw [Bool.and_eq_true, decide_eq_true_eq]
      refine ⟨by omega, p_sl_iff.mpr (fun i c hi => hp i c ?_ hi)⟩
      have := (List.getElem?_eq_some_iff.mp hi).1
      omega
    rw [if_pos sp] at hQ
    refine zW_ok hj B111_15 15 _ _ _ _ _ b111_15 ?_
    simp only [B111_15, zW, z_wp1, z_ld, z_f0, z_f1, z_f2, z_f3, List.getElem?_cons_zero, List.getElem?_cons_succ, true_and, and_true, Int32.reduceOfInt, z_i10, z_i01, Int32.reduceLT, Int32.reduceLE, Int32.reduceAdd, Int32.reduceSub, z_set, z_set2, z_kil, List.set_cons_zero, List.set_cons_succ, List.take_succ_cons, List.take_zero, List.drop_succ_cons, List.drop_zero, List.reverse_cons, List.reverse_nil, List.nil_append, List.cons_append, List.getD_cons_succ, List.getD_cons_zero, List.getD_nil, List.length_cons, List.length_nil, List.map_cons, List.map_nil, List.sum_cons, List.sum_nil, Nat.reduceAdd, Nat.reduceLeDiff, Value.category, Option.toList, true_or, or_true, z_ua, ↓reduceIte, Nat.reduceEqDiff, eq_self, not_true_eq_false, not_false_eq_true, false_implies, true_implies, Classical.not_not, Nat.le_refl, Nat.zero_le]
    try dsimp only
    refine z_invT (i := 74) (j' := 246) (d' := 1) (as := []) (rest := [.int (nI k)]) hj (by decide +kernel) (by decide) (by rw [hO]; exact z_lk246) (by decide +kernel) (by decide +kernel) h1 h4 (by decide +kernel) (Nat.le_of_ble_eq_true rfl) (by omega) (c246 h1 h4) (by omega) (by omega) ?_
    show zV X 21 _ [.int (nI (z_len b)), .int (nI k)] _ 0 0
    refine zW_ok hj B111_21 21 _ _ _ _ _ b111_21 ?_
    simp only [B111_21, zW, z_wp1, z_ld, z_f0, z_f1, z_f2, z_f3, List.getElem?_cons_zero, List.getElem?_cons_succ, true_and, and_true, Int32.reduceOfInt, z_i10, z_i01, Int32.reduceLT, Int32.reduceLE, Int32.reduceAdd, Int32.reduceSub, z_set, z_set2, z_kil, List.set_cons_zero, List.set_cons_succ, List.take_succ_cons, List.take_zero, List.drop_succ_cons, List.drop_zero, List.reverse_cons, List.reverse_nil, List.nil_append, List.cons_append, List.getD_cons_succ, List.getD_cons_zero, List.getD_nil, List.length_cons, List.length_nil, List.map_cons, List.map_nil, List.sum_cons, List.sum_nil, Nat.reduceAdd, Nat.reduceLeDiff, Value.category, Option.toList, true_or, or_true, z_ua, ↓reduceIte, Nat.reduceEqDiff, eq_self, not_true_eq_false, not_false_eq_true, false_implies, true_implies, Classical.not_not, Nat.le_refl, Nat.zero_le, le]
    try dsimp only
    refine zW_ok hj B111_47 47 _ _ _ _ _ b111_47 ?_
    simp only [B111_47, zW, z_wp1, z_ld, z_f0, z_f1, z_f2, z_f3, List.getElem?_cons_zero, List.getElem?_cons_succ, true_and, and_true, Int32.reduceOfInt, z_i10, z_i01, Int32.reduceLT, Int32.reduceLE, Int32.reduceAdd, Int32.reduceSub, z_set, z_set2, z_kil, List.set_cons_zero, List.set_cons_succ, List.take_succ_cons, List.take_zero, List.drop_succ_cons, List.drop_zero, List.reverse_cons, List.reverse_nil, List.nil_append, List.cons_append, List.getD_cons_succ, List.getD_cons_zero, List.getD_nil, List.length_cons, List.length_nil, List.map_cons, List.map_nil, List.sum_cons, List.sum_nil, Nat.reduceAdd, Nat.reduceLeDiff, Value.category, Option.toList, true_or, or_true, z_ua, ↓reduceIte, Nat.reduceEqDiff, eq_self, not_true_eq_false, not_false_eq_true, false_implies, true_implies, Classical.not_not, Nat.le_refl, Nat.zero_le]
    try dsimp only
    exact hQ _ _ ⟨rfl, rfl⟩
  | succ f ih =>
    intro k hk hp
    have nle : ¬ nI (z_len b) ≤ nI k := nI_ge (by omega) (by omega)
    have ea : (nI (a + k)).toNatClampNeg = a + k := nI_clamp (by omega)
    have va : vp_in (nI (a + k)) 800 := vp_in_nI (by omega) (by omega)
    have hg : (z_byt b)[k]? = some ((z_byt b).getD k 0) := by
      rw [List.getD_eq_getElem?_getD, List.getElem?_eq_getElem (by omega)]
      rfl
    refine zW_ok hj B111_15 15 _ _ _ _ _ b111_15 ?_
    simp only [B111_15, zW, z_wp1, z_ld, z_f0, z_f1, z_f2, z_f3, List.getElem?_cons_zero, List.getElem?_cons_succ, true_and, and_true, Int32.reduceOfInt, z_i10, z_i01, Int32.reduceLT, Int32.reduceLE, Int32.reduceAdd, Int32.reduceSub, z_set, z_set2, z_kil, List.set_cons_zero, List.set_cons_succ, List.take_succ_cons, List.take_zero, List.drop_succ_cons, List.drop_zero, List.reverse_cons, List.reverse_nil, List.nil_append, List.cons_append, List.getD_cons_succ, List.getD_cons_zero, List.getD_nil, List.length_cons, List.length_nil, List.map_cons, List.map_nil, List.sum_cons, List.sum_nil, Nat.reduceAdd, Nat.reduceLeDiff, Value.category, Option.toList, true_or, or_true, z_ua, ↓reduceIte, Nat.reduceEqDiff, eq_self, not_true_eq_false, not_false_eq_true, false_implies, true_implies, Classical.not_not, Nat.le_refl, Nat.zero_le]
    try dsimp only
    refine z_invT (i := 74) (j' := 246) (d' := 1) (as := []) (rest := [.int (nI k)]) hj (by decide +kernel) (by decide) (by rw [hO]; exact z_lk246) (by decide +kernel) (by decide +kernel) h1 h4 (by decide +kernel) (Nat.le_of_ble_eq_true rfl) (by omega) (c246 h1 h4) (by omega) (by omega) ?_
    show zV X 21 _ [.int (nI (z_len b)), .int (nI k)] _ 0 0
    refine zW_ok hj B111_21 21 _ _ _ _ _ b111_21 ?_
    simp only [B111_21, zW, z_wp1, z_ld, z_f0, z_f1, z_f2, z_f3, List.getElem?_cons_zero, List.getElem?_cons_succ, true_and, and_true, Int32.reduceOfInt, z_i10, z_i01, Int32.reduceLT, Int32.reduceLE, Int32.reduceAdd, Int32.reduceSub, z_set, z_set2, z_kil, List.set_cons_zero, List.set_cons_succ, List.take_succ_cons, List.take_zero, List.drop_succ_cons, List.drop_zero, List.reverse_cons, List.reverse_nil, List.nil_append, List.cons_append, List.getD_cons_succ, List.getD_cons_zero, List.getD_nil, List.length_cons, List.length_nil, List.map_cons, List.map_nil, List.sum_cons, List.sum_nil, Nat.reduceAdd, Nat.reduceLeDiff, Value.category, Option.toList, true_or, or_true, z_ua, ↓reduceIte, Nat.reduceEqDiff, eq_self, not_true_eq_false, not_false_eq_true, false_implies, true_implies, Classical.not_not, Nat.le_refl, Nat.zero_le, nle, nI_add, sK59 hS, sL59 hS, ea, va]
    try dsimp only
    refine z_invT (i := 80) (j' := 247) (d' := 3) (as := [.int (nI k)]) (rest := [.int (I 59 (a + k))]) hj (by decide +kernel) (by decide) (by rw [hO]; exact z_lk247) (by decide +kernel) (by decide +kernel) h1 h4 (show (1 : Nat) = z_An 247 by decide +kernel) (Nat.le_of_ble_eq_true rfl) (by omega) (c247 h1 h4 (by omega)) (by omega) (by omega) ?_
    show zV X 36 _ [.int ((z_byt b).getD k 0), .int (I 59 (a + k))] _ 0 0
    by_cases hc : I 59 (a + k) = (z_byt b).getD k 0
    · have ih' := ih (k + 1) (by omega) (fun i c hi hci => by
        by_cases z : i = k
        · subst z
          rw [hg] at hci
          cases hci
          exact hc
        · exact hp i c (by omega) hci)
      refine zW_ok hj B111_36 36 _ _ _ _ _ b111_36 ?_
      simp only [B111_36, zW, z_wp1, z_ld, z_f0, z_f1, z_f2, z_f3, List.getElem?_cons_zero, List.getElem?_cons_succ, true_and, and_true, Int32.reduceOfInt, z_i10, z_i01, Int32.reduceLT, Int32.reduceLE, Int32.reduceAdd, Int32.reduceSub, z_set, z_set2, z_kil, List.set_cons_zero, List.set_cons_succ, List.take_succ_cons, List.take_zero, List.drop_succ_cons, List.drop_zero, List.reverse_cons, List.reverse_nil, List.nil_append, List.cons_append, List.getD_cons_succ, List.getD_cons_zero, List.getD_nil, List.length_cons, List.length_nil, List.map_cons, List.map_nil, List.sum_cons, List.sum_nil, Nat.reduceAdd, Nat.reduceLeDiff, Value.category, Option.toList, true_or, or_true, z_ua, ↓reduceIte, Nat.reduceEqDiff, eq_self, not_true_eq_false, not_false_eq_true, false_implies, true_implies, Classical.not_not, Nat.le_refl, Nat.zero_le, hc]
      try dsimp only
      refine zW_ok hj B111_41 41 _ _ _ _ _ b111_41 ?_
      simp only [B111_41, zW, z_wp1, z_ld, z_f0, z_f1, z_f2, z_f3, List.getElem?_cons_zero, List.getElem?_cons_succ, true_and, and_true, Int32.reduceOfInt, z_i10, z_i01, Int32.reduceLT, Int32.reduceLE, Int32.reduceAdd, Int32.reduceSub, z_set, z_set2, z_kil, List.set_cons_zero, List.set_cons_succ, List.take_succ_cons, List.take_zero, List.drop_succ_cons, List.drop_zero, List.reverse_cons, List.reverse_nil, List.nil_append, List.cons_append, List.getD_cons_succ, List.getD_cons_zero, List.getD_nil, List.length_cons, List.length_nil, List.map_cons, List.map_nil, List.sum_cons, List.sum_nil, Nat.reduceAdd, Nat.reduceLeDiff, Value.category, Option.toList, true_or, or_true, z_ua, ↓reduceIte, Nat.reduceEqDiff, eq_self, not_true_eq_false, not_false_eq_true, false_implies, true_implies, Classical.not_not, Nat.le_refl, Nat.zero_le, nI_1]
      try dsimp only
      exact ih'
    · have sp : ¬ p_sp (I 59) a e (z_byt b) = true := fun q => by
        unfold p_sp at q
        rw [Bool.and_eq_true, p_sl_iff] at q
        exact hc (q.2 k _ hg)
      rw [if_neg sp] at hQ
      refine zW_ok hj B111_36 36 _ _ _ _ _ b111_36 ?_
      simp only [B111_36, zW, z_wp1, z_ld, z_f0, z_f1, z_f2, z_f3, List.getElem?_cons_zero, List.getElem?_cons_succ, true_and, and_true, Int32.reduceOfInt, z_i10, z_i01, Int32.reduceLT, Int32.reduceLE, Int32.reduceAdd, Int32.reduceSub, z_set, z_set2, z_kil, List.set_cons_zero, List.set_cons_succ, List.take_succ_cons, List.take_zero, List.drop_succ_cons, List.drop_zero, List.reverse_cons, List.reverse_nil, List.nil_append, List.cons_append, List.getD_cons_succ, List.getD_cons_zero, List.getD_nil, List.length_cons, List.length_nil, List.map_cons, List.map_nil, List.sum_cons, List.sum_nil, Nat.reduceAdd, Nat.reduceLeDiff, Value.category, Option.toList, true_or, or_true, z_ua, ↓reduceIte, Nat.reduceEqDiff, eq_self, not_true_eq_false, not_false_eq_true, false_implies, true_implies, Classical.not_not, Nat.le_refl, Nat.zero_le, hc]
      try dsimp only
      exact hQ _ _ ⟨rfl, rfl⟩
/-- spells -/
theorem c111 (hS : SS K L G) (h1 : 1 ≤ b) (h4 : b ≤ 4) (hae : a ≤ e) (he8 : e ≤ 800) : z_D l 4 111 [.ref b, .ref 59, .int (nI a), .int (nI e)] (n, K, L, I, J, G) (some (.int (if p_sp (I 59) a e (z_byt b) = true then 1 else 0))) (n, K, L, I, J, G) := by
  obtain ⟨hz6, hzl⟩ := z_len_in h1 h4
  have hO : z_O 111 = 9 := by decide +kernel
  have es : nI e - nI a = nI (e - a) := nI_sub' hae
  have eq : nI (e - a) = nI (z_len b) ↔ e - a = z_len b := nI_eq (by omega) (by omega)
  refine z_ctr (by decide) (by decide +kernel) (Nat.le_of_ble_eq_true rfl) (by decide +kernel) (fun X hl hj hd hm hs hsc hQ => ?_)
  show zV X 0 [some (.ref b), some (.ref 59), some (.int (nI a)), some (.int (nI e)), none] [] _ 0 0
  refine zW_ok hj B111_0 0 _ _ _ _ _ b111_0 ?_
  simp only [B111_0, zW, z_wp1, z_ld, z_f0, z_f1, z_f2, z_f3, List.getElem?_cons_zero, List.getElem?_cons_succ, true_and, and_true, Int32.reduceOfInt, z_i10, z_i01, Int32.reduceLT, Int32.reduceLE, Int32.reduceAdd, Int32.reduceSub, z_set, z_set2, z_kil, List.set_cons_zero, List.set_cons_succ, List.take_succ_cons, List.take_zero, List.drop_succ_cons, List.drop_zero, List.reverse_cons, List.reverse_nil, List.nil_append, List.cons_append, List.getD_cons_succ, List.getD_cons_zero, List.getD_nil, List.length_cons, List.length_nil, List.map_cons, List.map_nil, List.sum_cons, List.sum_nil, Nat.reduceAdd, Nat.reduceLeDiff, Value.category, Option.toList, true_or, or_true, z_ua, ↓reduceIte, Nat.reduceEqDiff, eq_self, not_true_eq_false, not_false_eq_true, false_implies, true_implies, Classical.not_not, Nat.le_refl, Nat.zero_le, es]
  try dsimp only
  refine z_invT (i := 74) (j' := 246) (d' := 1) (as := []) (rest := [.int (nI (e - a))]) hj (by decide +kernel) (by decide) (by rw [hO]; exact z_lk246) (by decide +kernel) (by decide +kernel) h1 h4 (by decide +kernel) (Nat.le_of_ble_eq_true rfl) (by omega) (c246 h1 h4) (by omega) (by omega) ?_
  show zV X 7 _ [.int (nI (z_len b)), .int (nI (e - a))] _ 0 0
  refine zW_ok hj B111_7 7 _ _ _ _ _ b111_7 ?_
  simp only [B111_7, zW, z_wp1, z_ld, z_f0, z_f1, z_f2, z_f3, List.getElem?_cons_zero, List.getElem?_cons_succ, true_and, and_true, Int32.reduceOfInt, z_i10, z_i01, Int32.reduceLT, Int32.reduceLE, Int32.reduceAdd, Int32.reduceSub, z_set, z_set2, z_kil, List.set_cons_zero, List.set_cons_succ, List.take_succ_cons, List.take_zero, List.drop_succ_cons, List.drop_zero, List.reverse_cons, List.reverse_nil, List.nil_append, List.cons_append, List.getD_cons_succ, List.getD_cons_zero, List.getD_nil, List.length_cons, List.length_nil, List.map_cons, List.map_nil, List.sum_cons, List.sum_nil, Nat.reduceAdd, Nat.reduceLeDiff, Value.category, Option.toList, true_or, or_true, z_ua, ↓reduceIte, Nat.reduceEqDiff, eq_self, not_true_eq_false, not_false_eq_true, false_implies, true_implies, Classical.not_not, Nat.le_refl, Nat.zero_le, eq]
  try dsimp only
  refine ⟨fun q => ?_, fun q => ?_⟩
  · refine zW_ok hj B111_12 12 _ _ _ _ _ b111_12 ?_
    simp only [B111_12, zW, z_wp1, z_ld, z_f0, z_f1, z_f2, z_f3, List.getElem?_cons_zero, List.getElem?_cons_succ, true_and, and_true, Int32.reduceOfInt, z_i10, z_i01, Int32.reduceLT, Int32.reduceLE, Int32.reduceAdd, Int32.reduceSub, z_set, z_set2, z_kil, List.set_cons_zero, List.set_cons_succ, List.take_succ_cons, List.take_zero, List.drop_succ_cons, List.drop_zero, List.reverse_cons, List.reverse_nil, List.nil_append, List.cons_append, List.getD_cons_succ, List.getD_cons_zero, List.getD_nil, List.length_cons, List.length_nil, List.map_cons, List.map_nil, List.sum_cons, List.sum_nil, Nat.reduceAdd, Nat.reduceLeDiff, Value.category, Option.toList, true_or, or_true, z_ua, ↓reduceIte, Nat.reduceEqDiff, eq_self, not_true_eq_false, not_false_eq_true, false_implies, true_implies, Classical.not_not, Nat.le_refl, Nat.zero_le]
    try dsimp only
    exact c111_loop hS hj hd hm hs h1 h4 (by omega) he8 hQ (z_len b) 0 (by omega) (fun i c hi => by omega)
  · have sp : ¬ p_sp (I 59) a e (z_byt b) = true := fun z => by
      unfold p_sp at z
      rw [Bool.and_eq_true, decide_eq_true_eq] at z
      omega
    rw [if_neg sp] at hQ
    exact hQ _ _ ⟨rfl, rfl⟩
end TOK2
