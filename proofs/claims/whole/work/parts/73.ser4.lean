/-! Rows of finds: rows and place of the model -/
theorem z_l0 : Int64.ofNat ((0 : Fin 2) : Nat) = (0 : Int64) := rfl
theorem z_l1 : Int64.ofNat ((1 : Fin 2) : Nat) = (1 : Int64) := rfl
section SER4
variable {l : Launch} {n : Nat} {K L : Nat → Nat} {I : Nat → Nat → Int32} {J : Nat → Nat → Int64} {G : Nat → Nat → Value} {c F N s : Nat} {tr : Nat → (Int32 → Int32) → Int32}
/-- a question for rows that may be asked -/
abbrev m_cr (F N : Nat) (mode set asked : Int32) : Prop := (mode = 0 ∨ mode = 1) ∧ m_isF F set ∧ m_isM N asked
theorem m_cr_can {mode set asked : Int32} (hst : m_st I c F N tr) : m_can I mode set asked ↔ m_cr F N mode set asked := by
  obtain ⟨s1, s2, s3, s4, s5, s6, s7⟩ := id hst
  rw [m_can, s3, s5, z_shl1 (by omega), z_shl1 (by omega)]
  exact Iff.rfl
theorem c227y (hS : SS K L G) (hst : m_st I c F N tr) {mode set asked : Int32} (h : m_cr F N mode set asked) : z_D l 1 227 [.ref 71, .int mode, .int set, .int asked] (n, K, L, I, J, G) (some (.int 1)) (n, K, L, I, J, G) := by
  have q := @c227 l n K L I J G hS mode set asked (Classical.propDecidable _)
  rw [@z_b1 _ (Classical.propDecidable _) ((m_cr_can hst).mpr h)] at q
  exact q
theorem c227n (hS : SS K L G) (hst : m_st I c F N tr) {mode set asked : Int32} (h : ¬ m_cr F N mode set asked) : z_D l 1 227 [.ref 71, .int mode, .int set, .int asked] (n, K, L, I, J, G) (some (.int 0)) (n, K, L, I, J, G) := by
  have q := @c227 l n K L I J G hS mode set asked (Classical.propDecidable _)
  rw [@z_b0 _ (Classical.propDecidable _) (fun z => h ((m_cr_can hst).mp z))] at q
  exact q
theorem m_isF_nI (hF : F ≤ 16) {set : Int32} (h : m_isF F set) : ∃ s, s < 2 ^ F ∧ set = nI s := by
  have := (zb_rng hF).mp h
  exact zb_toN hF this
/-- rows -/
theorem c229a (hS : SS K L G) (hst : m_st I c F N tr) {mode asked : Int32} (hs16 : s < 2 ^ F) (h : m_cr F N mode (nI s) asked) : z_Ctr l 5 229 [.ref 71, .int mode, .int (nI s), .int asked] (n, K, L, I, J, G) 0 0 (fun r h' => r = some (.long (lN (mV (mHo I c F N tr mode asked s) F N s 0))) ∧ ∃ I' J', h' = (n, K, L, I', J', G) ∧ mF I I' ∧ ∀ q, q ≠ 93 → J' q = J q) := by
  have hst' := (m_sm.t I).st hst
  refine z_ctr (by decide) (by decide +kernel) (Nat.le_of_ble_eq_true rfl) (by decide +kernel) (fun X hl hj hd hm hs hsc hQ => ?_)
  show zV X 0 [some (.ref 71), some (.int mode), some (.int (nI s)), some (.int asked)] [] _ 0 0
  refine zW_ok hj B229_0 0 _ _ _ _ _ b229_0 ?_
  simp only [B229_0, zW, z_wp1, z_ld, z_f0, z_f1, z_f2, z_f3, List.getElem?_cons_zero, List.getElem?_cons_succ, true_and, and_true, Int32.reduceOfInt, z_i10, z_i01, Int32.reduceLT, Int32.reduceLE, Int32.reduceAdd, Int32.reduceSub, z_set, z_set2, z_kil, List.set_cons_zero, List.set_cons_succ, List.take_succ_cons, List.take_zero, List.drop_succ_cons, List.drop_zero, List.reverse_cons, List.reverse_nil, List.nil_append, List.cons_append, List.getD_cons_succ, List.getD_cons_zero, List.getD_nil, List.length_cons, List.length_nil, List.map_cons, List.map_nil, List.sum_cons, List.sum_nil, Nat.reduceAdd, Nat.reduceLeDiff, Value.category, Option.toList, true_or, or_true, z_ua, ↓reduceIte, Nat.reduceEqDiff, eq_self, not_true_eq_false, not_false_eq_true, false_implies, true_implies, Classical.not_not, Nat.le_refl, Nat.zero_le, sK71 hS]
  try dsimp only
  refine z_callD (c227y (I := m_t I) hS hst' h) (by omega) (by omega) (by omega) (Nat.le_of_ble_eq_true rfl) ?_
  try simp only [zW, z_wp1, z_ld, z_f0, z_f1, z_f2, z_f3, List.getElem?_cons_zero, List.getElem?_cons_succ, true_and, and_true, Int32.reduceOfInt, z_i10, z_i01, Int32.reduceLT, Int32.reduceLE, Int32.reduceAdd, Int32.reduceSub, z_set, z_set2, z_kil, List.set_cons_zero, List.set_cons_succ, List.take_succ_cons, List.take_zero, List.drop_succ_cons, List.drop_zero, List.reverse_cons, List.reverse_nil, List.nil_append, List.cons_append, List.getD_cons_succ, List.getD_cons_zero, List.getD_nil, List.length_cons, List.length_nil, List.map_cons, List.map_nil, List.sum_cons, List.sum_nil, Nat.reduceAdd, Nat.reduceLeDiff, Value.category, Option.toList, true_or, or_true, z_ua, ↓reduceIte, Nat.reduceEqDiff, eq_self, not_true_eq_false, not_false_eq_true, false_implies, true_implies, Classical.not_not, Nat.le_refl, Nat.zero_le, sK71 hS]
  try dsimp only
  refine zW_ok hj B229_19 19 _ _ _ _ _ b229_19 ?_
  simp only [B229_19, zW, z_wp1, z_ld, z_f0, z_f1, z_f2, z_f3, List.getElem?_cons_zero, List.getElem?_cons_succ, true_and, and_true, Int32.reduceOfInt, z_i10, z_i01, Int32.reduceLT, Int32.reduceLE, Int32.reduceAdd, Int32.reduceSub, z_set, z_set2, z_kil, List.set_cons_zero, List.set_cons_succ, List.take_succ_cons, List.take_zero, List.drop_succ_cons, List.drop_zero, List.reverse_cons, List.reverse_nil, List.nil_append, List.cons_append, List.getD_cons_succ, List.getD_cons_zero, List.getD_nil, List.length_cons, List.length_nil, List.map_cons, List.map_nil, List.sum_cons, List.sum_nil, Nat.reduceAdd, Nat.reduceLeDiff, Value.category, Option.toList, true_or, or_true, z_ua, ↓reduceIte, Nat.reduceEqDiff, eq_self, not_true_eq_false, not_false_eq_true, false_implies, true_implies, Classical.not_not, Nat.le_refl, Nat.zero_le, sK71 hS]
  try dsimp only
  refine z_callQ (c228 (I := m_t I) (J := J) hS hst' mode asked hs16) (by omega) (by omega) (by omega) (Nat.le_of_ble_eq_true rfl) ?_
  rintro r h' ⟨rfl, I1, J1, rfl, o1, o2, r1, r2⟩
  have e0 : (0 : Int32).toNatClampNeg = 0 := by decide
  have v0 : vp_in 0 65536 := by rw [← nI_0]; exact vp_in_nI (by omega) (by omega)
  simp only [zW, z_wp1, z_ld, z_f0, z_f1, z_f2, z_f3, List.getElem?_cons_zero, List.getElem?_cons_succ, true_and, and_true, Int32.reduceOfInt, z_i10, z_i01, Int32.reduceLT, Int32.reduceLE, Int32.reduceAdd, Int32.reduceSub, z_set, z_set2, z_kil, List.set_cons_zero, List.set_cons_succ, List.take_succ_cons, List.take_zero, List.drop_succ_cons, List.drop_zero, List.reverse_cons, List.reverse_nil, List.nil_append, List.cons_append, List.getD_cons_succ, List.getD_cons_zero, List.getD_nil, List.length_cons, List.length_nil, List.map_cons, List.map_nil, List.sum_cons, List.sum_nil, Nat.reduceAdd, Nat.reduceLeDiff, Value.category, Option.toList, true_or, or_true, z_ua, ↓reduceIte, Nat.reduceEqDiff, eq_self, not_true_eq_false, not_false_eq_true, false_implies, true_implies, Classical.not_not, Nat.le_refl, Nat.zero_le, sK71 hS, sG71_47 hS, sK93 hS, sL93 hS, e0, v0]
  try dsimp only
  refine hQ _ _ ⟨?_, I1, J1, rfl, (mF.t I).tr o1, o2⟩
  rw [r2 0 (Nat.zero_and _)]
  rfl
theorem c229b (hS : SS K L G) (hst : m_st I c F N tr) {mode set asked : Int32} (h : ¬ m_cr F N mode set asked) : z_D l 5 229 [.ref 71, .int mode, .int set, .int asked] (n, K, L, I, J, G) (some (.long (-1))) (n, K, L, m_t I, J, G) := by
  have hst' := (m_sm.t I).st hst
  refine z_ctr (by decide) (by decide +kernel) (Nat.le_of_ble_eq_true rfl) (by decide +kernel) (fun X hl hj hd hm hs hsc hQ => ?_)
  show zV X 0 [some (.ref 71), some (.int mode), some (.int set), some (.int asked)] [] _ 0 0
  refine zW_ok hj B229_0 0 _ _ _ _ _ b229_0 ?_
  simp only [B229_0, zW, z_wp1, z_ld, z_f0, z_f1, z_f2, z_f3, List.getElem?_cons_zero, List.getElem?_cons_succ, true_and, and_true, Int32.reduceOfInt, z_i10, z_i01, Int32.reduceLT, Int32.reduceLE, Int32.reduceAdd, Int32.reduceSub, z_set, z_set2, z_kil, List.set_cons_zero, List.set_cons_succ, List.take_succ_cons, List.take_zero, List.drop_succ_cons, List.drop_zero, List.reverse_cons, List.reverse_nil, List.nil_append, List.cons_append, List.getD_cons_succ, List.getD_cons_zero, List.getD_nil, List.length_cons, List.length_nil, List.map_cons, List.map_nil, List.sum_cons, List.sum_nil, Nat.reduceAdd, Nat.reduceLeDiff, Value.category, Option.toList, true_or, or_true, z_ua, ↓reduceIte, Nat.reduceEqDiff, eq_self, not_true_eq_false, not_false_eq_true, false_implies, true_implies, Classical.not_not, Nat.le_refl, Nat.zero_le, sK71 hS]
  try dsimp only
  refine z_callD (c227n (I := m_t I) hS hst' h) (by omega) (by omega) (by omega) (Nat.le_of_ble_eq_true rfl) ?_
  try simp only [zW, z_wp1, z_ld, z_f0, z_f1, z_f2, z_f3, List.getElem?_cons_zero, List.getElem?_cons_succ, true_and, and_true, Int32.reduceOfInt, z_i10, z_i01, Int32.reduceLT, Int32.reduceLE, Int32.reduceAdd, Int32.reduceSub, z_set, z_set2, z_kil, List.set_cons_zero, List.set_cons_succ, List.take_succ_cons, List.take_zero, List.drop_succ_cons, List.drop_zero, List.reverse_cons, List.reverse_nil, List.nil_append, List.cons_append, List.getD_cons_succ, List.getD_cons_zero, List.getD_nil, List.length_cons, List.length_nil, List.map_cons, List.map_nil, List.sum_cons, List.sum_nil, Nat.reduceAdd, Nat.reduceLeDiff, Value.category, Option.toList, true_or, or_true, z_ua, ↓reduceIte, Nat.reduceEqDiff, eq_self, not_true_eq_false, not_false_eq_true, false_implies, true_implies, Classical.not_not, Nat.le_refl, Nat.zero_le, sK71 hS]
  try dsimp only
  exact hQ _ _ ⟨rfl, rfl⟩
/-- what place answers, behind t -/
noncomputable def mPl (ho : Nat → Int32) (F N s rem t lf : Nat) : Int32 := if rem < s_n (s_u (nI s) (nI t)) F then nI (s_at F (s_B N ho) rem (s_u (nI s) (nI t)) lf) else -1
theorem c230_in {X : zX} (hS : SS K L G) (hj : X.2.1 = 230) {ho : Nat → Int32} (hF16 : F ≤ 16) (hs16 : s < 2 ^ F) (hh : ∀ i, i < N → ∀ f, zb (ho i) f = true → zb (nI s) f = true) {t lf p : Nat} (ht : t &&& s = t) (hlf : lf < mV ho F N s t) (hp : p < F) (hop : s_op F (s_B N ho) (s_u (nI s) (nI t)) p) (hp1 : s_sum (mG ho F N s t) p ≤ lf) (hp2 : lf - s_sum (mG ho F N s t) p < mV ho F N s (t ||| 2 ^ p)) (hJ : ∀ t, t &&& s = t → J 93 t = lN (mV ho F N s t)) {x1 x3 x45 x10 x11 : Option Value} {y6 : Int32}
    (kk : zV X 155 [some (.ref 71), x1, some (.int (nI s)), x3, x45, none, some (.int y6), some (.long (lN (lf - s_sum (mG ho F N s t) p))), none, some (.int (nI t)), x10, x11, some (.int (m_may ho (nI s) (nI t) N)), some (.int (nI p))] [] (n, K, L, I, J, G) 0 0) : ∀ k f : Nat, f + k = p → zV X 90 [some (.ref 71), x1, some (.int (nI s)), x3, x45, none, some (.int y6), some (.long (lN (lf - s_sum (mG ho F N s t) f))), none, some (.int (nI t)), x10, x11, some (.int (m_may ho (nI s) (nI t) N)), some (.int (nI f))] [] (n, K, L, I, J, G) 0 0 := by
  have fct : ∀ f, f < F → s_op F (s_B N ho) (s_u (nI s) (nI t)) f → (m_may ho (nI s) (nI t) N >>> (nI f &&& 31) &&& 1 = 1) ∧ nI t ||| 1 <<< (nI f &&& 31) = nI (t ||| 2 ^ f) ∧ (nI (t ||| 2 ^ f)).toNatClampNeg = t ||| 2 ^ f ∧ vp_in (nI (t ||| 2 ^ f)) 65536 ∧ J 93 (t ||| 2 ^ f) = lN (mV ho F N s (t ||| 2 ^ f)) ∧ t < 2 ^ 16 := by
    intro f hf ho
    have hm := (m_may_op (f := f) hh (fun i hi => zb_of hF16 hs16 hi)).mpr ho
    have h3 := (m_may_b N).mp hm
    obtain ⟨n1, n2, n3⟩ := s_next hF16 hs16 ht hf h3.1.1 h3.1.2
    obtain ⟨o1, o2, o3⟩ := z_bit1 (t := t) (f := f) n3 (by omega)
    exact ⟨(zb_get1 (by omega)).mpr hm, o1, nI_clamp (by omega), vp_in_nI (by omega) (by omega), hJ _ n1, n3⟩
  have bV : ∀ q, mV ho F N s q < 2 ^ 45 := fun q => s_V_bd hF16
  have := bV t
  intro k
  induction k with
  | zero =>
    intro f hk
    have e : f = p := by omega
    subst e
    obtain ⟨f1, f2, f3, f4, f5, f6⟩ := fct f hp hop
    have := bV (t ||| 2 ^ f)
    refine zW_ok hj B230_90 90 _ _ _ _ _ b230_90 ?_
    simp only [B230_90, zW, z_wp1, z_ld, z_f0, z_f1, z_f2, z_f3, List.getElem?_cons_zero, List.getElem?_cons_succ, true_and, and_true, Int32.reduceOfInt, z_i10, z_i01, Int32.reduceLT, Int32.reduceLE, Int32.reduceAdd, Int32.reduceSub, z_set, z_set2, z_kil, List.set_cons_zero, List.set_cons_succ, List.take_succ_cons, List.take_zero, List.drop_succ_cons, List.drop_zero, List.reverse_cons, List.reverse_nil, List.nil_append, List.cons_append, List.getD_cons_succ, List.getD_cons_zero, List.getD_nil, List.length_cons, List.length_nil, List.map_cons, List.map_nil, List.sum_cons, List.sum_nil, Nat.reduceAdd, Nat.reduceLeDiff, Value.category, Option.toList, true_or, or_true, z_ua, ↓reduceIte, Nat.reduceEqDiff, eq_self, not_true_eq_false, not_false_eq_true, false_implies, true_implies, Classical.not_not, Nat.le_refl, Nat.zero_le, sK71 hS, f1, f2, f3, f4, f5, sG71_47 hS, sK93 hS, sL93 hS, lg_cmp_lt, lN_lt' (show lf - s_sum (mG ho F N s t) f < 2 ^ 63 by omega) (show mV ho F N s (t ||| 2 ^ f) < 2 ^ 63 by omega), hp2]
    try dsimp only
    exact kk
  | succ k ih =>
    intro f hk
    have hi := ih (f + 1) (by omega)
    have hmn := s_sum_mono (g := mG ho F N s t) (a := f + 1) (b := p) (by omega)
    by_cases hof : s_op F (s_B N ho) (s_u (nI s) (nI t)) f
    · obtain ⟨f1, f2, f3, f4, f5, f6⟩ := fct f (by omega) hof
      have := bV (t ||| 2 ^ f)
      have e3 : s_sum (mG ho F N s t) (f + 1) = s_sum (mG ho F N s t) f + mV ho F N s (t ||| 2 ^ f) := by
        rw [s_sum, mG, s_g_y hof, mV, s_u_add f6 (by omega)]
      have nl : ¬ lf - s_sum (mG ho F N s t) f < mV ho F N s (t ||| 2 ^ f) := by omega
      refine zW_ok hj B230_90 90 _ _ _ _ _ b230_90 ?_
      simp only [B230_90, zW, z_wp1, z_ld, z_f0, z_f1, z_f2, z_f3, List.getElem?_cons_zero, List.getElem?_cons_succ, true_and, and_true, Int32.reduceOfInt, z_i10, z_i01, Int32.reduceLT, Int32.reduceLE, Int32.reduceAdd, Int32.reduceSub, z_set, z_set2, z_kil, List.set_cons_zero, List.set_cons_succ, List.take_succ_cons, List.take_zero, List.drop_succ_cons, List.drop_zero, List.reverse_cons, List.reverse_nil, List.nil_append, List.cons_append, List.getD_cons_succ, List.getD_cons_zero, List.getD_nil, List.length_cons, List.length_nil, List.map_cons, List.map_nil, List.sum_cons, List.sum_nil, Nat.reduceAdd, Nat.reduceLeDiff, Value.category, Option.toList, true_or, or_true, z_ua, ↓reduceIte, Nat.reduceEqDiff, eq_self, not_true_eq_false, not_false_eq_true, false_implies, true_implies, Classical.not_not, Nat.le_refl, Nat.zero_le, sK71 hS, f1, f2, f3, f4, f5, sG71_47 hS, sK93 hS, sL93 hS, lg_cmp_lt, lN_lt' (show lf - s_sum (mG ho F N s t) f < 2 ^ 63 by omega) (show mV ho F N s (t ||| 2 ^ f) < 2 ^ 63 by omega), nl]
      try dsimp only
      refine zW_ok hj B230_118 118 _ _ _ _ _ b230_118 ?_
      simp only [B230_118, zW, z_wp1, z_ld, z_f0, z_f1, z_f2, z_f3, List.getElem?_cons_zero, List.getElem?_cons_succ, true_and, and_true, Int32.reduceOfInt, z_i10, z_i01, Int32.reduceLT, Int32.reduceLE, Int32.reduceAdd, Int32.reduceSub, z_set, z_set2, z_kil, List.set_cons_zero, List.set_cons_succ, List.take_succ_cons, List.take_zero, List.drop_succ_cons, List.drop_zero, List.reverse_cons, List.reverse_nil, List.nil_append, List.cons_append, List.getD_cons_succ, List.getD_cons_zero, List.getD_nil, List.length_cons, List.length_nil, List.map_cons, List.map_nil, List.sum_cons, List.sum_nil, Nat.reduceAdd, Nat.reduceLeDiff, Value.category, Option.toList, true_or, or_true, z_ua, ↓reduceIte, Nat.reduceEqDiff, eq_self, not_true_eq_false, not_false_eq_true, false_implies, true_implies, Classical.not_not, Nat.le_refl, Nat.zero_le, sK71 hS, f1, f2, f3, f4, f5, sG71_47 hS, sK93 hS, sL93 hS, lN_sub (show mV ho F N s (t ||| 2 ^ f) ≤ lf - s_sum (mG ho F N s t) f by omega)]
      try dsimp only
      refine zW_ok hj B230_146 146 _ _ _ _ _ b230_146 ?_
      simp only [B230_146, zW, z_wp1, z_ld, z_f0, z_f1, z_f2, z_f3, List.getElem?_cons_zero, List.getElem?_cons_succ, true_and, and_true, Int32.reduceOfInt, z_i10, z_i01, Int32.reduceLT, Int32.reduceLE, Int32.reduceAdd, Int32.reduceSub, z_set, z_set2, z_kil, List.set_cons_zero, List.set_cons_succ, List.take_succ_cons, List.take_zero, List.drop_succ_cons, List.drop_zero, List.reverse_cons, List.reverse_nil, List.nil_append, List.cons_append, List.getD_cons_succ, List.getD_cons_zero, List.getD_nil, List.length_cons, List.length_nil, List.map_cons, List.map_nil, List.sum_cons, List.sum_nil, Nat.reduceAdd, Nat.reduceLeDiff, Value.category, Option.toList, true_or, or_true, z_ua, ↓reduceIte, Nat.reduceEqDiff, eq_self, not_true_eq_false, not_false_eq_true, false_implies, true_implies, Classical.not_not, Nat.le_refl, Nat.zero_le, nI_1]
      try dsimp only
      rw [show lf - s_sum (mG ho F N s t) f - mV ho F N s (t ||| 2 ^ f) = lf - s_sum (mG ho F N s t) (f + 1) by omega]
      exact hi
    · have hm : zb (m_may ho (nI s) (nI t) N) f = false := by
        cases e : zb (m_may ho (nI s) (nI t) N) f with
        | false => rfl
        | true => exact absurd ((m_may_op (f := f) hh (fun i hi => zb_of hF16 hs16 hi)).mp e) hof
      have f1 : m_may ho (nI s) (nI t) N >>> (nI f &&& 31) &&& 1 = 0 := (zb_get0 (by omega)).mpr hm
      have e3 : s_sum (mG ho F N s t) (f + 1) = s_sum (mG ho F N s t) f := by rw [s_sum, mG, s_g_n hof]; rfl
      rw [e3] at hi
      refine zW_ok hj B230_90 90 _ _ _ _ _ b230_90 ?_
      simp only [B230_90, zW, z_wp1, z_ld, z_f0, z_f1, z_f2, z_f3, List.getElem?_cons_zero, List.getElem?_cons_succ, true_and, and_true, Int32.reduceOfInt, z_i10, z_i01, Int32.reduceLT, Int32.reduceLE, Int32.reduceAdd, Int32.reduceSub, z_set, z_set2, z_kil, List.set_cons_zero, List.set_cons_succ, List.take_succ_cons, List.take_zero, List.drop_succ_cons, List.drop_zero, List.reverse_cons, List.reverse_nil, List.nil_append, List.cons_append, List.getD_cons_succ, List.getD_cons_zero, List.getD_nil, List.length_cons, List.length_nil, List.map_cons, List.map_nil, List.sum_cons, List.sum_nil, Nat.reduceAdd, Nat.reduceLeDiff, Value.category, Option.toList, true_or, or_true, z_ua, ↓reduceIte, Nat.reduceEqDiff, eq_self, not_true_eq_false, not_false_eq_true, false_implies, true_implies, Classical.not_not, Nat.le_refl, Nat.zero_le, f1]
      try dsimp only
      refine zW_ok hj B230_118 118 _ _ _ _ _ b230_118 ?_
      simp only [B230_118, zW, z_wp1, z_ld, z_f0, z_f1, z_f2, z_f3, List.getElem?_cons_zero, List.getElem?_cons_succ, true_and, and_true, Int32.reduceOfInt, z_i10, z_i01, Int32.reduceLT, Int32.reduceLE, Int32.reduceAdd, Int32.reduceSub, z_set, z_set2, z_kil, List.set_cons_zero, List.set_cons_succ, List.take_succ_cons, List.take_zero, List.drop_succ_cons, List.drop_zero, List.reverse_cons, List.reverse_nil, List.nil_append, List.cons_append, List.getD_cons_succ, List.getD_cons_zero, List.getD_nil, List.length_cons, List.length_nil, List.map_cons, List.map_nil, List.sum_cons, List.sum_nil, Nat.reduceAdd, Nat.reduceLeDiff, Value.category, Option.toList, true_or, or_true, z_ua, ↓reduceIte, Nat.reduceEqDiff, eq_self, not_true_eq_false, not_false_eq_true, false_implies, true_implies, Classical.not_not, Nat.le_refl, Nat.zero_le, f1]
      try dsimp only
      refine zW_ok hj B230_146 146 _ _ _ _ _ b230_146 ?_
      simp only [B230_146, zW, z_wp1, z_ld, z_f0, z_f1, z_f2, z_f3, List.getElem?_cons_zero, List.getElem?_cons_succ, true_and, and_true, Int32.reduceOfInt, z_i10, z_i01, Int32.reduceLT, Int32.reduceLE, Int32.reduceAdd, Int32.reduceSub, z_set, z_set2, z_kil, List.set_cons_zero, List.set_cons_succ, List.take_succ_cons, List.take_zero, List.drop_succ_cons, List.drop_zero, List.reverse_cons, List.reverse_nil, List.nil_append, List.cons_append, List.getD_cons_succ, List.getD_cons_zero, List.getD_nil, List.length_cons, List.length_nil, List.map_cons, List.map_nil, List.sum_cons, List.sum_nil, Nat.reduceAdd, Nat.reduceLeDiff, Value.category, Option.toList, true_or, or_true, z_ua, ↓reduceIte, Nat.reduceEqDiff, eq_self, not_true_eq_false, not_false_eq_true, false_implies, true_implies, Classical.not_not, Nat.le_refl, Nat.zero_le, nI_1]
      try dsimp only
      exact hi
theorem c230_out {X : zX} (hS : SS K L G) (hj : X.2.1 = 230) (hd : X.2.2.1 = 5) (hm : X.2.2.2.1 = 0) (hsl : X.2.2.2.2.1 = 0) (hN : I 71 17 = nI N) (hN12 : N ≤ 12) (hF16 : F ≤ 16) (hs16 : s < 2 ^ F) (hh : ∀ i, i < N → ∀ f, zb (I 94 i) f = true → zb (nI s) f = true) (hJ : ∀ t, t &&& s = t → J 93 t = lN (mV (I 94) F N s t)) {i : Nat} (hi31 : i < 2 ^ 31) {v : Int32} (hQ : ∀ r h', (r = some (.int v) ∧ h' = (n, K, L, I, J, G)) → X.2.2.2.2.2.2 r h') {x1 x3 x45 : Option Value} : ∀ (rem m t lf : Nat) (x10 x12 x13 : Option Value), m + rem = i → t &&& s = t → lf < mV (I 94) F N s t → m + s_n (s_u (nI s) (nI t)) F ≤ 16 → mPl (I 94) F N s rem t lf = v →
      zV X 63 [some (.ref 71), x1, some (.int (nI s)), x3, x45, none, some (.int (nI i)), some (.long (lN lf)), none, some (.int (nI t)), x10, some (.int (nI m)), x12, x13] [] (n, K, L, I, J, G) 0 0 := by
  have h16 := z_powF hF16
  intro rem
  induction rem with
  | zero =>
    intro m t lf x10 x12 x13 hk ht hlf hfr hv
    have hts : t ≤ s := by rw [← ht]; exact Nat.and_le_right
    have nm : ¬ nI i < nI m := fun q => by rw [nI_ltI (by omega) (by omega)] at q; omega
    by_cases e : t = s
    · subst e
      refine zW_ok hj B230_63 63 _ _ _ _ _ b230_63 ?_
      simp only [B230_63, zW, z_wp1, z_ld, z_f0, z_f1, z_f2, z_f3, List.getElem?_cons_zero, List.getElem?_cons_succ, true_and, and_true, Int32.reduceOfInt, z_i10, z_i01, Int32.reduceLT, Int32.reduceLE, Int32.reduceAdd, Int32.reduceSub, z_set, z_set2, z_kil, List.set_cons_zero, List.set_cons_succ, List.take_succ_cons, List.take_zero, List.drop_succ_cons, List.drop_zero, List.reverse_cons, List.reverse_nil, List.nil_append, List.cons_append, List.getD_cons_succ, List.getD_cons_zero, List.getD_nil, List.length_cons, List.length_nil, List.map_cons, List.map_nil, List.sum_cons, List.sum_nil, Nat.reduceAdd, Nat.reduceLeDiff, Value.category, Option.toList, true_or, or_true, z_ua, ↓reduceIte, Nat.reduceEqDiff, eq_self, not_true_eq_false, not_false_eq_true, false_implies, true_implies, Classical.not_not, Nat.le_refl, Nat.zero_le, nm]
      try dsimp only
      refine hQ _ _ ⟨?_, rfl⟩
      rw [← hv, mPl, s_u_all, if_neg (by omega)]
    · have ne : ¬ nI t = nI s := fun q => e ((nI_eq (by omega) (by omega)).mp q)
      have hn := s_u_ne hF16 hs16 ht e
      obtain ⟨p1, p2, p3, p4⟩ := s_p_ok hlf hn
      have hb := (m_may_op (f := s_p F (s_B N (I 94)) (s_u (nI s) (nI t)) lf) hh (fun i hi => zb_of hF16 hs16 hi)).mpr p2
      have h3 := (m_may_b N).mp hb
      obtain ⟨n1, n2, n3⟩ := s_next hF16 hs16 ht p1 h3.1.1 h3.1.2
      refine zW_ok hj B230_63 63 _ _ _ _ _ b230_63 ?_
      simp only [B230_63, zW, z_wp1, z_ld, z_f0, z_f1, z_f2, z_f3, List.getElem?_cons_zero, List.getElem?_cons_succ, true_and, and_true, Int32.reduceOfInt, z_i10, z_i01, Int32.reduceLT, Int32.reduceLE, Int32.reduceAdd, Int32.reduceSub, z_set, z_set2, z_kil, List.set_cons_zero, List.set_cons_succ, List.take_succ_cons, List.take_zero, List.drop_succ_cons, List.drop_zero, List.reverse_cons, List.reverse_nil, List.nil_append, List.cons_append, List.getD_cons_succ, List.getD_cons_zero, List.getD_nil, List.length_cons, List.length_nil, List.map_cons, List.map_nil, List.sum_cons, List.sum_nil, Nat.reduceAdd, Nat.reduceLeDiff, Value.category, Option.toList, true_or, or_true, z_ua, ↓reduceIte, Nat.reduceEqDiff, eq_self, not_true_eq_false, not_false_eq_true, false_implies, true_implies, Classical.not_not, Nat.le_refl, Nat.zero_le, nm, ne]
      try dsimp only
      refine zW_ok hj B230_78 78 _ _ _ _ _ b230_78 ?_
      simp only [B230_78, zW, z_wp1, z_ld, z_f0, z_f1, z_f2, z_f3, List.getElem?_cons_zero, List.getElem?_cons_succ, true_and, and_true, Int32.reduceOfInt, z_i10, z_i01, Int32.reduceLT, Int32.reduceLE, Int32.reduceAdd, Int32.reduceSub, z_set, z_set2, z_kil, List.set_cons_zero, List.set_cons_succ, List.take_succ_cons, List.take_zero, List.drop_succ_cons, List.drop_zero, List.reverse_cons, List.reverse_nil, List.nil_append, List.cons_append, List.getD_cons_succ, List.getD_cons_zero, List.getD_nil, List.length_cons, List.length_nil, List.map_cons, List.map_nil, List.sum_cons, List.sum_nil, Nat.reduceAdd, Nat.reduceLeDiff, Value.category, Option.toList, true_or, or_true, z_ua, ↓reduceIte, Nat.reduceEqDiff, eq_self, not_true_eq_false, not_false_eq_true, false_implies, true_implies, Classical.not_not, Nat.le_refl, Nat.zero_le, sK71 hS]
      try dsimp only
      refine z_callD (c225 (I := I) (J := J) hS hN hN12 (nI s) (nI t)) (by omega) (by omega) (by omega) (Nat.le_of_ble_eq_true rfl) ?_
      try simp only [zW, z_wp1, z_ld, z_f0, z_f1, z_f2, z_f3, List.getElem?_cons_zero, List.getElem?_cons_succ, true_and, and_true, Int32.reduceOfInt, z_i10, z_i01, Int32.reduceLT, Int32.reduceLE, Int32.reduceAdd, Int32.reduceSub, z_set, z_set2, z_kil, List.set_cons_zero, List.set_cons_succ, List.take_succ_cons, List.take_zero, List.drop_succ_cons, List.drop_zero, List.reverse_cons, List.reverse_nil, List.nil_append, List.cons_append, List.getD_cons_succ, List.getD_cons_zero, List.getD_nil, List.length_cons, List.length_nil, List.map_cons, List.map_nil, List.sum_cons, List.sum_nil, Nat.reduceAdd, Nat.reduceLeDiff, Value.category, Option.toList, true_or, or_true, z_ua, ↓reduceIte, Nat.reduceEqDiff, eq_self, not_true_eq_false, not_false_eq_true, false_implies, true_implies, Classical.not_not, Nat.le_refl, Nat.zero_le, sK71 hS]
      try dsimp only
      refine (c230_in (N := N) (x1 := x1) (x3 := x3) (x45 := x45) (y6 := nI i) (x10 := x10) (x11 := some (.int (nI m))) hS hj hF16 hs16 hh ht hlf p1 p2 p3 (by rw [mV, s_u_add n3 (by omega)]; exact p4) hJ ?_ _ 0 (Nat.zero_add _)).weak (by simp only [z_le, nI_0, s_sum, Nat.sub_zero]; simp)
      refine zW_ok hj B230_155 155 _ _ _ _ _ b230_155 ?_
      simp only [B230_155, zW, z_wp1, z_ld, z_f0, z_f1, z_f2, z_f3, List.getElem?_cons_zero, List.getElem?_cons_succ, true_and, and_true, Int32.reduceOfInt, z_i10, z_i01, Int32.reduceLT, Int32.reduceLE, Int32.reduceAdd, Int32.reduceSub, z_set, z_set2, z_kil, List.set_cons_zero, List.set_cons_succ, List.take_succ_cons, List.take_zero, List.drop_succ_cons, List.drop_zero, List.reverse_cons, List.reverse_nil, List.nil_append, List.cons_append, List.getD_cons_succ, List.getD_cons_zero, List.getD_nil, List.length_cons, List.length_nil, List.map_cons, List.map_nil, List.sum_cons, List.sum_nil, Nat.reduceAdd, Nat.reduceLeDiff, Value.category, Option.toList, true_or, or_true, z_ua, ↓reduceIte, Nat.reduceEqDiff, eq_self, not_true_eq_false, not_false_eq_true, false_implies, true_implies, Classical.not_not, Nat.le_refl, Nat.zero_le, nI_1]
      try dsimp only
      have nm2 : nI i < nI (m + 1) := nI_lt (by omega) (by omega)
      refine zW_ok hj B230_63 63 _ _ _ _ _ b230_63 ?_
      simp only [B230_63, zW, z_wp1, z_ld, z_f0, z_f1, z_f2, z_f3, List.getElem?_cons_zero, List.getElem?_cons_succ, true_and, and_true, Int32.reduceOfInt, z_i10, z_i01, Int32.reduceLT, Int32.reduceLE, Int32.reduceAdd, Int32.reduceSub, z_set, z_set2, z_kil, List.set_cons_zero, List.set_cons_succ, List.take_succ_cons, List.take_zero, List.drop_succ_cons, List.drop_zero, List.reverse_cons, List.reverse_nil, List.nil_append, List.cons_append, List.getD_cons_succ, List.getD_cons_zero, List.getD_nil, List.length_cons, List.length_nil, List.map_cons, List.map_nil, List.sum_cons, List.sum_nil, Nat.reduceAdd, Nat.reduceLeDiff, Value.category, Option.toList, true_or, or_true, z_ua, ↓reduceIte, Nat.reduceEqDiff, eq_self, not_true_eq_false, not_false_eq_true, false_implies, true_implies, Classical.not_not, Nat.le_refl, Nat.zero_le, nm2]
      try dsimp only
      refine zW_ok hj B230_174 174 _ _ _ _ _ b230_174 ?_
      simp only [B230_174, zW, z_wp1, z_ld, z_f0, z_f1, z_f2, z_f3, List.getElem?_cons_zero, List.getElem?_cons_succ, true_and, and_true, Int32.reduceOfInt, z_i10, z_i01, Int32.reduceLT, Int32.reduceLE, Int32.reduceAdd, Int32.reduceSub, z_set, z_set2, z_kil, List.set_cons_zero, List.set_cons_succ, List.take_succ_cons, List.take_zero, List.drop_succ_cons, List.drop_zero, List.reverse_cons, List.reverse_nil, List.nil_append, List.cons_append, List.getD_cons_succ, List.getD_cons_zero, List.getD_nil, List.length_cons, List.length_nil, List.map_cons, List.map_nil, List.sum_cons, List.sum_nil, Nat.reduceAdd, Nat.reduceLeDiff, Value.category, Option.toList, true_or, or_true, z_ua, ↓reduceIte, Nat.reduceEqDiff, eq_self, not_true_eq_false, not_false_eq_true, false_implies, true_implies, Classical.not_not, Nat.le_refl, Nat.zero_le]
      try dsimp only
      refine hQ _ _ ⟨?_, rfl⟩
      rw [← hv, mPl, if_pos (by omega), s_at]
  | succ rem ih =>
    intro m t lf x10 x12 x13 hk ht hlf hfr hv
    have hts : t ≤ s := by rw [← ht]; exact Nat.and_le_right
    have nm : ¬ nI i < nI m := fun q => by rw [nI_ltI (by omega) (by omega)] at q; omega
    by_cases e : t = s
    · subst e
      refine zW_ok hj B230_63 63 _ _ _ _ _ b230_63 ?_
      simp only [B230_63, zW, z_wp1, z_ld, z_f0, z_f1, z_f2, z_f3, List.getElem?_cons_zero, List.getElem?_cons_succ, true_and, and_true, Int32.reduceOfInt, z_i10, z_i01, Int32.reduceLT, Int32.reduceLE, Int32.reduceAdd, Int32.reduceSub, z_set, z_set2, z_kil, List.set_cons_zero, List.set_cons_succ, List.take_succ_cons, List.take_zero, List.drop_succ_cons, List.drop_zero, List.reverse_cons, List.reverse_nil, List.nil_append, List.cons_append, List.getD_cons_succ, List.getD_cons_zero, List.getD_nil, List.length_cons, List.length_nil, List.map_cons, List.map_nil, List.sum_cons, List.sum_nil, Nat.reduceAdd, Nat.reduceLeDiff, Value.category, Option.toList, true_or, or_true, z_ua, ↓reduceIte, Nat.reduceEqDiff, eq_self, not_true_eq_false, not_false_eq_true, false_implies, true_implies, Classical.not_not, Nat.le_refl, Nat.zero_le, nm]
      try dsimp only
      refine hQ _ _ ⟨?_, rfl⟩
      rw [← hv, mPl, s_u_all, if_neg (by omega)]
    · have ne : ¬ nI t = nI s := fun q => e ((nI_eq (by omega) (by omega)).mp q)
      have hn := s_u_ne hF16 hs16 ht e
      obtain ⟨p1, p2, p3, p4⟩ := s_p_ok hlf hn
      have hb := (m_may_op (f := s_p F (s_B N (I 94)) (s_u (nI s) (nI t)) lf) hh (fun i hi => zb_of hF16 hs16 hi)).mpr p2
      have h3 := (m_may_b N).mp hb
      obtain ⟨n1, n2, n3⟩ := s_next hF16 hs16 ht p1 h3.1.1 h3.1.2
      have hA := s_u_add (s := s) (t := t) (f := s_p F (s_B N (I 94)) (s_u (nI s) (nI t)) lf) n3 (by omega)
      have hnn := s_n_add p1 p2.1
      refine zW_ok hj B230_63 63 _ _ _ _ _ b230_63 ?_
      simp only [B230_63, zW, z_wp1, z_ld, z_f0, z_f1, z_f2, z_f3, List.getElem?_cons_zero, List.getElem?_cons_succ, true_and, and_true, Int32.reduceOfInt, z_i10, z_i01, Int32.reduceLT, Int32.reduceLE, Int32.reduceAdd, Int32.reduceSub, z_set, z_set2, z_kil, List.set_cons_zero, List.set_cons_succ, List.take_succ_cons, List.take_zero, List.drop_succ_cons, List.drop_zero, List.reverse_cons, List.reverse_nil, List.nil_append, List.cons_append, List.getD_cons_succ, List.getD_cons_zero, List.getD_nil, List.length_cons, List.length_nil, List.map_cons, List.map_nil, List.sum_cons, List.sum_nil, Nat.reduceAdd, Nat.reduceLeDiff, Value.category, Option.toList, true_or, or_true, z_ua, ↓reduceIte, Nat.reduceEqDiff, eq_self, not_true_eq_false, not_false_eq_true, false_implies, true_implies, Classical.not_not, Nat.le_refl, Nat.zero_le, nm, ne]
      try dsimp only
      refine zW_ok hj B230_78 78 _ _ _ _ _ b230_78 ?_
      simp only [B230_78, zW, z_wp1, z_ld, z_f0, z_f1, z_f2, z_f3, List.getElem?_cons_zero, List.getElem?_cons_succ, true_and, and_true, Int32.reduceOfInt, z_i10, z_i01, Int32.reduceLT, Int32.reduceLE, Int32.reduceAdd, Int32.reduceSub, z_set, z_set2, z_kil, List.set_cons_zero, List.set_cons_succ, List.take_succ_cons, List.take_zero, List.drop_succ_cons, List.drop_zero, List.reverse_cons, List.reverse_nil, List.nil_append, List.cons_append, List.getD_cons_succ, List.getD_cons_zero, List.getD_nil, List.length_cons, List.length_nil, List.map_cons, List.map_nil, List.sum_cons, List.sum_nil, Nat.reduceAdd, Nat.reduceLeDiff, Value.category, Option.toList, true_or, or_true, z_ua, ↓reduceIte, Nat.reduceEqDiff, eq_self, not_true_eq_false, not_false_eq_true, false_implies, true_implies, Classical.not_not, Nat.le_refl, Nat.zero_le, sK71 hS]
      try dsimp only
      refine z_callD (c225 (I := I) (J := J) hS hN hN12 (nI s) (nI t)) (by omega) (by omega) (by omega) (Nat.le_of_ble_eq_true rfl) ?_
      try simp only [zW, z_wp1, z_ld, z_f0, z_f1, z_f2, z_f3, List.getElem?_cons_zero, List.getElem?_cons_succ, true_and, and_true, Int32.reduceOfInt, z_i10, z_i01, Int32.reduceLT, Int32.reduceLE, Int32.reduceAdd, Int32.reduceSub, z_set, z_set2, z_kil, List.set_cons_zero, List.set_cons_succ, List.take_succ_cons, List.take_zero, List.drop_succ_cons, List.drop_zero, List.reverse_cons, List.reverse_nil, List.nil_append, List.cons_append, List.getD_cons_succ, List.getD_cons_zero, List.getD_nil, List.length_cons, List.length_nil, List.map_cons, List.map_nil, List.sum_cons, List.sum_nil, Nat.reduceAdd, Nat.reduceLeDiff, Value.category, Option.toList, true_or, or_true, z_ua, ↓reduceIte, Nat.reduceEqDiff, eq_self, not_true_eq_false, not_false_eq_true, false_implies, true_implies, Classical.not_not, Nat.le_refl, Nat.zero_le, sK71 hS]
      try dsimp only
      refine (c230_in (N := N) (x1 := x1) (x3 := x3) (x45 := x45) (y6 := nI i) (x10 := x10) (x11 := some (.int (nI m))) hS hj hF16 hs16 hh ht hlf p1 p2 p3 (by rw [mV, hA]; exact p4) hJ ?_ _ 0 (Nat.zero_add _)).weak (by simp only [z_le, nI_0, s_sum, Nat.sub_zero]; simp)
      have o1 := (z_bit1 (t := t) (f := s_p F (s_B N (I 94)) (s_u (nI s) (nI t)) lf) n3 (by omega)).1
      refine zW_ok hj B230_155 155 _ _ _ _ _ b230_155 ?_
      simp only [B230_155, zW, z_wp1, z_ld, z_f0, z_f1, z_f2, z_f3, List.getElem?_cons_zero, List.getElem?_cons_succ, true_and, and_true, Int32.reduceOfInt, z_i10, z_i01, Int32.reduceLT, Int32.reduceLE, Int32.reduceAdd, Int32.reduceSub, z_set, z_set2, z_kil, List.set_cons_zero, List.set_cons_succ, List.take_succ_cons, List.take_zero, List.drop_succ_cons, List.drop_zero, List.reverse_cons, List.reverse_nil, List.nil_append, List.cons_append, List.getD_cons_succ, List.getD_cons_zero, List.getD_nil, List.length_cons, List.length_nil, List.map_cons, List.map_nil, List.sum_cons, List.sum_nil, Nat.reduceAdd, Nat.reduceLeDiff, Value.category, Option.toList, true_or, or_true, z_ua, ↓reduceIte, Nat.reduceEqDiff, eq_self, not_true_eq_false, not_false_eq_true, false_implies, true_implies, Classical.not_not, Nat.le_refl, Nat.zero_le, nI_1, o1]
      try dsimp only
      refine ih (m + 1) _ _ _ _ _ (by omega) n1 (by rw [mV, hA]; exact p4) (by rw [hA]; omega) ?_
      rw [← hv, mPl, mPl, hA]
      by_cases hc : rem + 1 < s_n (s_u (nI s) (nI t)) F
      · rw [if_pos hc, if_pos (by omega), s_at]
      · rw [if_neg hc, if_neg (by omega)]
/-- place -/
theorem c230a (hS : SS K L G) (hst : m_st I c F N tr) {mode asked : Int32} (hs16 : s < 2 ^ F) (h : m_cr F N mode (nI s) asked) {k i : Nat} (hk : k < 2 ^ 63) (hi31 : i < 2 ^ 31) : z_Ctr l 5 230 [.ref 71, .int mode, .int (nI s), .int asked, .long (lN k), .int (nI i)] (n, K, L, I, J, G) 0 0 (fun r h' => r = some (.int (if k < mV (mHo I c F N tr mode asked s) F N s 0 then mPl (mHo I c F N tr mode asked s) F N s i 0 k else -1)) ∧ ∃ I' J', h' = (n, K, L, I', J', G) ∧ mF I I' ∧ ∀ q, q ≠ 93 → J' q = J q) := by
  have hst' := (m_sm.t I).st hst
  obtain ⟨s1, s2, s3, s4, s5, s6, s7⟩ := id hst'
  have k0 : ¬ lN k < 0 := fun q => by
    have := (lN_lt' (a := k) (b := 0) hk (by omega)).mp q
    omega
  have i0 : 0 ≤ nI i := nI_pos' (by omega)
  have e0 : (0 : Int32).toNatClampNeg = 0 := by decide
  have v0 : vp_in 0 65536 := by rw [← nI_0]; exact vp_in_nI (by omega) (by omega)
  refine z_ctr (by decide) (by decide +kernel) (Nat.le_of_ble_eq_true rfl) (by decide +kernel) (fun X hl hj hd hm hs hsc hQ => ?_)
  show zV X 0 [some (.ref 71), some (.int mode), some (.int (nI s)), some (.int asked), some (.long (lN k)), none, some (.int (nI i)), none, none, none, none, none, none, none] [] _ 0 0
  refine zW_ok hj B230_0 0 _ _ _ _ _ b230_0 ?_
  simp only [B230_0, zW, z_wp1, z_ld, z_f0, z_f1, z_f2, z_f3, List.getElem?_cons_zero, List.getElem?_cons_succ, true_and, and_true, Int32.reduceOfInt, z_i10, z_i01, Int32.reduceLT, Int32.reduceLE, Int32.reduceAdd, Int32.reduceSub, z_set, z_set2, z_kil, List.set_cons_zero, List.set_cons_succ, List.take_succ_cons, List.take_zero, List.drop_succ_cons, List.drop_zero, List.reverse_cons, List.reverse_nil, List.nil_append, List.cons_append, List.getD_cons_succ, List.getD_cons_zero, List.getD_nil, List.length_cons, List.length_nil, List.map_cons, List.map_nil, List.sum_cons, List.sum_nil, Nat.reduceAdd, Nat.reduceLeDiff, Value.category, Option.toList, true_or, or_true, z_ua, ↓reduceIte, Nat.reduceEqDiff, eq_self, not_true_eq_false, not_false_eq_true, false_implies, true_implies, Classical.not_not, Nat.le_refl, Nat.zero_le, sK71 hS]
  try dsimp only
  refine z_callD (c227y (I := m_t I) hS hst' h) (by omega) (by omega) (by omega) (Nat.le_of_ble_eq_true rfl) ?_
  try simp only [zW, z_wp1, z_ld, z_f0, z_f1, z_f2, z_f3, List.getElem?_cons_zero, List.getElem?_cons_succ, true_and, and_true, Int32.reduceOfInt, z_i10, z_i01, Int32.reduceLT, Int32.reduceLE, Int32.reduceAdd, Int32.reduceSub, z_set, z_set2, z_kil, List.set_cons_zero, List.set_cons_succ, List.take_succ_cons, List.take_zero, List.drop_succ_cons, List.drop_zero, List.reverse_cons, List.reverse_nil, List.nil_append, List.cons_append, List.getD_cons_succ, List.getD_cons_zero, List.getD_nil, List.length_cons, List.length_nil, List.map_cons, List.map_nil, List.sum_cons, List.sum_nil, Nat.reduceAdd, Nat.reduceLeDiff, Value.category, Option.toList, true_or, or_true, z_ua, ↓reduceIte, Nat.reduceEqDiff, eq_self, not_true_eq_false, not_false_eq_true, false_implies, true_implies, Classical.not_not, Nat.le_refl, Nat.zero_le, sK71 hS, lg_cmp_lt, z_l0, k0, i0]
  try dsimp only
  refine zW_ok hj B230_29 29 _ _ _ _ _ b230_29 ?_
  simp only [B230_29, zW, z_wp1, z_ld, z_f0, z_f1, z_f2, z_f3, List.getElem?_cons_zero, List.getElem?_cons_succ, true_and, and_true, Int32.reduceOfInt, z_i10, z_i01, Int32.reduceLT, Int32.reduceLE, Int32.reduceAdd, Int32.reduceSub, z_set, z_set2, z_kil, List.set_cons_zero, List.set_cons_succ, List.take_succ_cons, List.take_zero, List.drop_succ_cons, List.drop_zero, List.reverse_cons, List.reverse_nil, List.nil_append, List.cons_append, List.getD_cons_succ, List.getD_cons_zero, List.getD_nil, List.length_cons, List.length_nil, List.map_cons, List.map_nil, List.sum_cons, List.sum_nil, Nat.reduceAdd, Nat.reduceLeDiff, Value.category, Option.toList, true_or, or_true, z_ua, ↓reduceIte, Nat.reduceEqDiff, eq_self, not_true_eq_false, not_false_eq_true, false_implies, true_implies, Classical.not_not, Nat.le_refl, Nat.zero_le, sK71 hS]
  try dsimp only
  refine z_callQ (c228 (I := m_t I) (J := J) hS hst' mode asked hs16) (by omega) (by omega) (by omega) (Nat.le_of_ble_eq_true rfl) ?_
  rintro r h' ⟨rfl, I1, J1, rfl, o1, o2, r1, r2⟩
  have bV : mV (mHo (m_t I) c F N tr mode asked s) F N s 0 < 2 ^ 45 := s_V_bd s4
  have e71 : I1 71 17 = nI N := by rw [o1.2 _ (by unfold mQ; omega)]; exact s5
  simp only [zW, z_wp1, z_ld, z_f0, z_f1, z_f2, z_f3, List.getElem?_cons_zero, List.getElem?_cons_succ, true_and, and_true, Int32.reduceOfInt, z_i10, z_i01, Int32.reduceLT, Int32.reduceLE, Int32.reduceAdd, Int32.reduceSub, z_set, z_set2, z_kil, List.set_cons_zero, List.set_cons_succ, List.take_succ_cons, List.take_zero, List.drop_succ_cons, List.drop_zero, List.reverse_cons, List.reverse_nil, List.nil_append, List.cons_append, List.getD_cons_succ, List.getD_cons_zero, List.getD_nil, List.length_cons, List.length_nil, List.map_cons, List.map_nil, List.sum_cons, List.sum_nil, Nat.reduceAdd, Nat.reduceLeDiff, Value.category, Option.toList, true_or, or_true, z_ua, ↓reduceIte, Nat.reduceEqDiff, eq_self, not_true_eq_false, not_false_eq_true, false_implies, true_implies, Classical.not_not, Nat.le_refl, Nat.zero_le, sK71 hS, sG71_47 hS, sK93 hS, sL93 hS, e0, v0, r2 0 (Nat.zero_and _), lg_cmp_lt, lN_lt' hk (show mV (mHo (m_t I) c F N tr mode asked s) F N s 0 < 2 ^ 63 by omega)]
  try dsimp only
  refine ⟨fun hl => ?_, fun hl => hQ _ _ ⟨by rw [if_neg]; exact hl, I1, J1, rfl, (mF.t I).tr o1, o2⟩⟩
  have eV : ∀ t, mV (I1 94) F N s t = mV (mHo (m_t I) c F N tr mode asked s) F N s t := fun t => by rw [mV, mV, s_B_congr r1]
  refine zW_ok hj B230_50 50 _ _ _ _ _ b230_50 ?_
  simp only [B230_50, zW, z_wp1, z_ld, z_f0, z_f1, z_f2, z_f3, List.getElem?_cons_zero, List.getElem?_cons_succ, true_and, and_true, Int32.reduceOfInt, z_i10, z_i01, Int32.reduceLT, Int32.reduceLE, Int32.reduceAdd, Int32.reduceSub, z_set, z_set2, z_kil, List.set_cons_zero, List.set_cons_succ, List.take_succ_cons, List.take_zero, List.drop_succ_cons, List.drop_zero, List.reverse_cons, List.reverse_nil, List.nil_append, List.cons_append, List.getD_cons_succ, List.getD_cons_zero, List.getD_nil, List.length_cons, List.length_nil, List.map_cons, List.map_nil, List.sum_cons, List.sum_nil, Nat.reduceAdd, Nat.reduceLeDiff, Value.category, Option.toList, true_or, or_true, z_ua, ↓reduceIte, Nat.reduceEqDiff, eq_self, not_true_eq_false, not_false_eq_true, false_implies, true_implies, Classical.not_not, Nat.le_refl, Nat.zero_le]
  try dsimp only
  refine (c230_out (N := N) (F := F) (s := s) (x1 := some (.int mode)) (x3 := some (.int asked)) (x45 := some (.long (lN k))) hS hj hd hm hs e71 s6 s4 hs16 (fun i hi f hf => mHo_sub s4 (by rw [← r1 i hi]; exact hf)) (fun t ht => by rw [r2 t ht, eV]) hi31 (v := mPl (I1 94) F N s i 0 k) ?_ i 0 0 k (some (.int (-1))) none none (by omega) (Nat.zero_and _) (by rw [eV]; exact hl) (by have := s_n_le (s_u (nI s) (nI 0)) F; omega) rfl).weak (by simp only [z_le, nI_0]; simp)
  rintro r h' ⟨rfl, rfl⟩
  refine hQ _ _ ⟨?_, I1, J1, rfl, (mF.t I).tr o1, o2⟩
  rw [if_pos (show k < mV (mHo I c F N tr mode asked s) F N s 0 from hl), mPl, s_B_congr r1]
  rfl
theorem c230b (hS : SS K L G) (hst : m_st I c F N tr) {mode set asked i : Int32} {k : Int64} (h : ¬ (m_cr F N mode set asked ∧ 0 ≤ k ∧ 0 ≤ i)) : z_D l 5 230 [.ref 71, .int mode, .int set, .int asked, .long k, .int i] (n, K, L, I, J, G) (some (.int (-1))) (n, K, L, m_t I, J, G) := by
  have hst' := (m_sm.t I).st hst
  refine z_ctr (by decide) (by decide +kernel) (Nat.le_of_ble_eq_true rfl) (by decide +kernel) (fun X hl hj hd hm hs hsc hQ => ?_)
  show zV X 0 [some (.ref 71), some (.int mode), some (.int set), some (.int asked), some (.long k), none, some (.int i), none, none, none, none, none, none, none] [] _ 0 0
  have no : zV X 27 [some (.ref 71), some (.int mode), some (.int set), some (.int asked), some (.long k), none, some (.int i), none, none, none, none, none, none, none] [] (n, K, L, m_t I, J, G) 0 0 := by
    refine zW_ok hj B230_27 27 _ _ _ _ _ b230_27 ?_
    simp only [B230_27, zW, z_wp1, z_ld, z_f0, z_f1, z_f2, z_f3, List.getElem?_cons_zero, List.getElem?_cons_succ, true_and, and_true, Int32.reduceOfInt, z_i10, z_i01, Int32.reduceLT, Int32.reduceLE, Int32.reduceAdd, Int32.reduceSub, z_set, z_set2, z_kil, List.set_cons_zero, List.set_cons_succ, List.take_succ_cons, List.take_zero, List.drop_succ_cons, List.drop_zero, List.reverse_cons, List.reverse_nil, List.nil_append, List.cons_append, List.getD_cons_succ, List.getD_cons_zero, List.getD_nil, List.length_cons, List.length_nil, List.map_cons, List.map_nil, List.sum_cons, List.sum_nil, Nat.reduceAdd, Nat.reduceLeDiff, Value.category, Option.toList, true_or, or_true, z_ua, ↓reduceIte, Nat.reduceEqDiff, eq_self, not_true_eq_false, not_false_eq_true, false_implies, true_implies, Classical.not_not, Nat.le_refl, Nat.zero_le]
    try dsimp only
    exact hQ _ _ ⟨rfl, rfl⟩
  refine zW_ok hj B230_0 0 _ _ _ _ _ b230_0 ?_
  simp only [B230_0, zW, z_wp1, z_ld, z_f0, z_f1, z_f2, z_f3, List.getElem?_cons_zero, List.getElem?_cons_succ, true_and, and_true, Int32.reduceOfInt, z_i10, z_i01, Int32.reduceLT, Int32.reduceLE, Int32.reduceAdd, Int32.reduceSub, z_set, z_set2, z_kil, List.set_cons_zero, List.set_cons_succ, List.take_succ_cons, List.take_zero, List.drop_succ_cons, List.drop_zero, List.reverse_cons, List.reverse_nil, List.nil_append, List.cons_append, List.getD_cons_succ, List.getD_cons_zero, List.getD_nil, List.length_cons, List.length_nil, List.map_cons, List.map_nil, List.sum_cons, List.sum_nil, Nat.reduceAdd, Nat.reduceLeDiff, Value.category, Option.toList, true_or, or_true, z_ua, ↓reduceIte, Nat.reduceEqDiff, eq_self, not_true_eq_false, not_false_eq_true, false_implies, true_implies, Classical.not_not, Nat.le_refl, Nat.zero_le, sK71 hS]
  try dsimp only
  by_cases hc : m_cr F N mode set asked
  · refine z_callD (c227y (I := m_t I) hS hst' hc) (by omega) (by omega) (by omega) (Nat.le_of_ble_eq_true rfl) ?_
    try simp only [zW, z_wp1, z_ld, z_f0, z_f1, z_f2, z_f3, List.getElem?_cons_zero, List.getElem?_cons_succ, true_and, and_true, Int32.reduceOfInt, z_i10, z_i01, Int32.reduceLT, Int32.reduceLE, Int32.reduceAdd, Int32.reduceSub, z_set, z_set2, z_kil, List.set_cons_zero, List.set_cons_succ, List.take_succ_cons, List.take_zero, List.drop_succ_cons, List.drop_zero, List.reverse_cons, List.reverse_nil, List.nil_append, List.cons_append, List.getD_cons_succ, List.getD_cons_zero, List.getD_nil, List.length_cons, List.length_nil, List.map_cons, List.map_nil, List.sum_cons, List.sum_nil, Nat.reduceAdd, Nat.reduceLeDiff, Value.category, Option.toList, true_or, or_true, z_ua, ↓reduceIte, Nat.reduceEqDiff, eq_self, not_true_eq_false, not_false_eq_true, false_implies, true_implies, Classical.not_not, Nat.le_refl, Nat.zero_le, sK71 hS, lg_cmp_lt, z_l0]
    try dsimp only
    refine ⟨fun _ => no, fun h1 => ⟨fun h2 => absurd ⟨hc, Int64.not_lt.mp h1, h2⟩ h, fun _ => no⟩⟩
  · refine z_callD (c227n (I := m_t I) hS hst' hc) (by omega) (by omega) (by omega) (Nat.le_of_ble_eq_true rfl) ?_
    try simp only [zW, z_wp1, z_ld, z_f0, z_f1, z_f2, z_f3, List.getElem?_cons_zero, List.getElem?_cons_succ, true_and, and_true, Int32.reduceOfInt, z_i10, z_i01, Int32.reduceLT, Int32.reduceLE, Int32.reduceAdd, Int32.reduceSub, z_set, z_set2, z_kil, List.set_cons_zero, List.set_cons_succ, List.take_succ_cons, List.take_zero, List.drop_succ_cons, List.drop_zero, List.reverse_cons, List.reverse_nil, List.nil_append, List.cons_append, List.getD_cons_succ, List.getD_cons_zero, List.getD_nil, List.length_cons, List.length_nil, List.map_cons, List.map_nil, List.sum_cons, List.sum_nil, Nat.reduceAdd, Nat.reduceLeDiff, Value.category, Option.toList, true_or, or_true, z_ua, ↓reduceIte, Nat.reduceEqDiff, eq_self, not_true_eq_false, not_false_eq_true, false_implies, true_implies, Classical.not_not, Nat.le_refl, Nat.zero_le, sK71 hS, lg_cmp_lt, z_l0]
    try dsimp only
    exact no
end SER4
