/-! The class: rules followed step by step -/
def m_oi (o : Option Nat) : Int32 := match o with
  | none => -1
  | some k => nI k
section LAT7
variable {l : Launch} {n : Nat} {K L : Nat → Nat} {I : Nat → Nat → Int32} {J : Nat → Nat → Int64} {G : Nat → Nat → Value} {lp c1 c2 c3 c4 S S2 N : Nat}
/-- the rules as they lie in the lattice -/
def XR (I : Nat → Nat → Int32) (lp c1 c4 S S2 : Nat) (LL : List (Int32 × Int32)) : Prop := I lp 8 = nI LL.length ∧ LL.length ≤ S2 ∧ ∀ t r, LL[t]? = some r → ∃ u, u < S ∧ I c4 t = nI u ∧ r.1 = nI u ∧ r.2 = I c1 u
theorem c40_loop {X : zX} (hL : XL K L G lp c1 c2 S) (hL2 : XL2 K L G lp c1 c3 c4 S2) (hj : X.2.1 = 40) {LL : List (Int32 × Int32)} (hR : XR I lp c1 c4 S S2 LL) {o : Option Nat} (hQ : ∀ r h', r = some (.int (m_oi o)) ∧ h' = (n, K, L, I, J, G) → X.2.2.2.2.2.2 r h') : ∀ (rest : List (Int32 × Int32)) (i : Nat) (x : Option Value), LL.drop i = rest → i ≤ LL.length → m_ft (I lp 12) rest i = o → zV X 2 [some (.ref lp), some (.int (nI i)), x] [] (n, K, L, I, J, G) 0 0
  | [], i, x, hr, hi, hv => by
    obtain ⟨q1, q2, q3, q4, q5, q6, q7, q8, q9, q10, q11, q12, q13, q14⟩ := id hL
    obtain ⟨r1, r2, r3, r4, r5, r6, r7, r8, r9, r10, r11, r12, r13, r14, r15⟩ := id hL2
    have e : i = LL.length := by
      have : (LL.drop i).length = 0 := by rw [hr]; rfl
      rw [List.length_drop] at this
      omega
    subst e
    obtain ⟨h1, h2, h3⟩ := hR
    refine zW_ok hj B40_2 2 _ _ _ _ _ b40_2 ?_
    simp only [B40_2, zW, z_wp1, z_ld, z_f0, z_f1, z_f2, z_f3, List.getElem?_cons_zero, List.getElem?_cons_succ, true_and, and_true, Int32.reduceOfInt, z_i10, z_i01, Int32.reduceLT, Int32.reduceLE, Int32.reduceAdd, Int32.reduceSub, z_set, z_set2, z_kil, List.set_cons_zero, List.set_cons_succ, List.take_succ_cons, List.take_zero, List.drop_succ_cons, List.drop_zero, List.reverse_cons, List.reverse_nil, List.nil_append, List.cons_append, List.getD_cons_succ, List.getD_cons_zero, List.getD_nil, List.length_cons, List.length_nil, List.map_cons, List.map_nil, List.sum_cons, List.sum_nil, Nat.reduceAdd, Nat.reduceLeDiff, Value.category, Option.toList, true_or, or_true, z_ua, ↓reduceIte, Nat.reduceEqDiff, eq_self, not_true_eq_false, not_false_eq_true, false_implies, true_implies, Classical.not_not, Nat.le_refl, Nat.zero_le, q1, h1]
    try dsimp only
    refine ⟨fun _ => ?_, fun hc => absurd (nI_le (Nat.le_refl _) (by omega)) hc⟩
    refine zW_ok hj B40_52 52 _ _ _ _ _ b40_52 ?_
    simp only [B40_52, zW, z_wp1, z_ld, z_f0, z_f1, z_f2, z_f3, List.getElem?_cons_zero, List.getElem?_cons_succ, true_and, and_true, Int32.reduceOfInt, z_i10, z_i01, Int32.reduceLT, Int32.reduceLE, Int32.reduceAdd, Int32.reduceSub, z_set, z_set2, z_kil, List.set_cons_zero, List.set_cons_succ, List.take_succ_cons, List.take_zero, List.drop_succ_cons, List.drop_zero, List.reverse_cons, List.reverse_nil, List.nil_append, List.cons_append, List.getD_cons_succ, List.getD_cons_zero, List.getD_nil, List.length_cons, List.length_nil, List.map_cons, List.map_nil, List.sum_cons, List.sum_nil, Nat.reduceAdd, Nat.reduceLeDiff, Value.category, Option.toList, true_or, or_true, z_ua, ↓reduceIte, Nat.reduceEqDiff, eq_self, not_true_eq_false, not_false_eq_true, false_implies, true_implies, Classical.not_not, Nat.le_refl, Nat.zero_le]
    try dsimp only
    exact hQ _ _ ⟨by rw [← hv]; rfl, rfl⟩
  | y :: rest, i, x, hr, hi, hv => by
    obtain ⟨q1, q2, q3, q4, q5, q6, q7, q8, q9, q10, q11, q12, q13, q14⟩ := id hL
    obtain ⟨r1, r2, r3, r4, r5, r6, r7, r8, r9, r10, r11, r12, r13, r14, r15⟩ := id hL2
    obtain ⟨h1, h2, h3⟩ := id hR
    have hl : i < LL.length := by
      have : 0 < (LL.drop i).length := by rw [hr]; simp
      rw [List.length_drop] at this
      omega
    obtain ⟨u, hu, g1, g2, g3⟩ := h3 i y (by
      have : (LL.drop i)[0]? = some y := by rw [hr]; rfl
      rwa [List.getElem?_drop, Nat.add_zero] at this)
    have hr' : LL.drop (i + 1) = rest := by rw [← List.drop_drop, hr]; rfl
    have e2 : (nI i).toNatClampNeg = i := nI_clamp (by omega)
    have e3 : vp_in (nI i) S2 := vp_in_nI (by omega) (by omega)
    have e4 : (nI u).toNatClampNeg = u := nI_clamp (by omega)
    have e5 : vp_in (nI u) S := vp_in_nI (by omega) (by omega)
    have go : ¬ (y.1 &&& I lp 12 = y.1 ∧ ¬ y.2 &&& I lp 12 = y.2) → zV X 46 [some (.ref lp), some (.int (nI i)), some (.int (nI u))] [] (n, K, L, I, J, G) 0 0 := by
      intro hn
      refine zW_ok hj B40_46 46 _ _ _ _ _ b40_46 ?_
      simp only [B40_46, zW, z_wp1, z_ld, z_f0, z_f1, z_f2, z_f3, List.getElem?_cons_zero, List.getElem?_cons_succ, true_and, and_true, Int32.reduceOfInt, z_i10, z_i01, Int32.reduceLT, Int32.reduceLE, Int32.reduceAdd, Int32.reduceSub, z_set, z_set2, z_kil, List.set_cons_zero, List.set_cons_succ, List.take_succ_cons, List.take_zero, List.drop_succ_cons, List.drop_zero, List.reverse_cons, List.reverse_nil, List.nil_append, List.cons_append, List.getD_cons_succ, List.getD_cons_zero, List.getD_nil, List.length_cons, List.length_nil, List.map_cons, List.map_nil, List.sum_cons, List.sum_nil, Nat.reduceAdd, Nat.reduceLeDiff, Value.category, Option.toList, true_or, or_true, z_ua, ↓reduceIte, Nat.reduceEqDiff, eq_self, not_true_eq_false, not_false_eq_true, false_implies, true_implies, Classical.not_not, Nat.le_refl, Nat.zero_le, nI_1]
      try dsimp only
      exact c40_loop hL hL2 hj hR hQ rest (i + 1) _ hr' (by omega) (by rw [← hv, m_ft, if_neg hn])
    refine zW_ok hj B40_2 2 _ _ _ _ _ b40_2 ?_
    simp only [B40_2, zW, z_wp1, z_ld, z_f0, z_f1, z_f2, z_f3, List.getElem?_cons_zero, List.getElem?_cons_succ, true_and, and_true, Int32.reduceOfInt, z_i10, z_i01, Int32.reduceLT, Int32.reduceLE, Int32.reduceAdd, Int32.reduceSub, z_set, z_set2, z_kil, List.set_cons_zero, List.set_cons_succ, List.take_succ_cons, List.take_zero, List.drop_succ_cons, List.drop_zero, List.reverse_cons, List.reverse_nil, List.nil_append, List.cons_append, List.getD_cons_succ, List.getD_cons_zero, List.getD_nil, List.length_cons, List.length_nil, List.map_cons, List.map_nil, List.sum_cons, List.sum_nil, Nat.reduceAdd, Nat.reduceLeDiff, Value.category, Option.toList, true_or, or_true, z_ua, ↓reduceIte, Nat.reduceEqDiff, eq_self, not_true_eq_false, not_false_eq_true, false_implies, true_implies, Classical.not_not, Nat.le_refl, Nat.zero_le, q1, h1, q2, q3, q4, r5, r6, r7, e2, e3, g1, e4, e5, z_dsub']
    try dsimp only
    rw [← g2, ← g3] at *
    refine ⟨fun hc => absurd hc (nI_ge (by omega) (by omega)), fun _ => ⟨fun a => go (fun q => a q.1), fun a => ⟨fun b => go (fun q => q.2 b), fun b => ?_⟩⟩⟩
    refine hQ _ _ ⟨?_, rfl⟩
    rw [← hv, m_ft, if_pos ⟨a, b⟩]
    rfl
theorem c40 (hL : XL K L G lp c1 c2 S) (hL2 : XL2 K L G lp c1 c3 c4 S2) {LL : List (Int32 × Int32)} (hR : XR I lp c1 c4 S S2 LL) : z_D l 0 40 [.ref lp] (n, K, L, I, J, G) (some (.int (m_oi (m_ft (I lp 12) LL 0)))) (n, K, L, I, J, G) := by
  refine z_ctr (by decide) (by decide +kernel) (Nat.le_of_ble_eq_true rfl) (by decide +kernel) (fun X hl hj hd hm hs hsc hQ => ?_)
  show zV X 0 [some (.ref lp), none, none] [] _ 0 0
  refine zW_ok hj B40_0 0 _ _ _ _ _ b40_0 ?_
  simp only [B40_0, zW, z_wp1, z_ld, z_f0, z_f1, z_f2, z_f3, List.getElem?_cons_zero, List.getElem?_cons_succ, true_and, and_true, Int32.reduceOfInt, z_i10, z_i01, Int32.reduceLT, Int32.reduceLE, Int32.reduceAdd, Int32.reduceSub, z_set, z_set2, z_kil, List.set_cons_zero, List.set_cons_succ, List.take_succ_cons, List.take_zero, List.drop_succ_cons, List.drop_zero, List.reverse_cons, List.reverse_nil, List.nil_append, List.cons_append, List.getD_cons_succ, List.getD_cons_zero, List.getD_nil, List.length_cons, List.length_nil, List.map_cons, List.map_nil, List.sum_cons, List.sum_nil, Nat.reduceAdd, Nat.reduceLeDiff, Value.category, Option.toList, true_or, or_true, z_ua, ↓reduceIte, Nat.reduceEqDiff, eq_self, not_true_eq_false, not_false_eq_true, false_implies, true_implies, Classical.not_not, Nat.le_refl, Nat.zero_le]
  try dsimp only
  exact c40_loop hL hL2 hj hR hQ LL 0 none rfl (Nat.zero_le _) rfl
end LAT7
