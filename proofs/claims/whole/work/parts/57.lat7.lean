/-! The class: rules followed step by step -/
def m_oi (o : Option Nat) : Int32 := match o with
  | none => -1
  | some k => nI k
section LAT7
variable {l : Launch} {n : Nat} {K L : Nat → Nat} {I : Nat → Nat → Int32} {J : Nat → Nat → Int64} {G : Nat → Nat → Value} {lp c1 c2 c3 c4 S S2 N : Nat}
/-- the rules as they lie in the lattice -/
def XR (I : Nat → Nat → Int32) (lp c1 c4 S S2 : Nat) (LL : List (Int32 × Int32)) : Prop := I lp 8 = nI LL.length ∧ LL.length ≤ S2 ∧ ∀ t r, LL[t]? = some r → ∃ u, u < S ∧ I c4 t = nI u ∧ r.1 = nI u ∧ r.2 = I c1 u
theorem c40_loop {X : zX} (hL : XL K L G lp c1 c2 S) (hL2 : XL2 K L G lp c1 c3 c4 S2) (hj : X.2.1 = 40) {LL : List (Int32 × Int32)} (hR : XR I lp c1 c4 S S2 LL) {o : Option Nat} (hQ : ∀ r h', r = some (.int (m_oi o)) ∧ h' = (n, K, L, I, J, G) → X.2.2.2.2.2.2 r h') : ∀ (rest : List (Int32 × Int32)) (i : Nat) (x : Option Value), LL.drop i = rest → i ≤ LL.length → m_ft (I lp 12) rest i = o → zV X 2 [some (.ref lp), some (.int (nI i)), x] [] (n, K, L, I, J, G) 0 0
  | [], i, x, hr, hi, hv => by
    obtain ⟨q1, q2, q3, q4, q5, q6, q7, q8, q9, q10, q11, q12, q13, q14⟩ := id hL
    obtain ⟨r1, r2, r3, r4, r5, r6, r7, r8, r9, r10, r11, r12, r13, r14, r15⟩ := id hL2
    have e : i = LL.length := by
      have : (LL.drop i).length = 0 := by rw [hr]; rfl
      rw [List.length_drop] at this
      omega
    subst e
    obtain ⟨h1, h2, h3⟩ := hR
    refine zW_ok hj B40_2 2 _ _ _ _ _ b40_2 ?_
    simp only [B40_2, zW, z_wp1, z_ld, z_f0, z_f1, z_f2, z_f3, List.getElem?_cons_zero, List.getElem?_cons_succ, true_and, and_true, Int32.reduceOfInt, z_i10, z_i01, Int32.reduceLT, Int32.reduceLE, Int32.reduceAdd, Int32.reduceSub, z_set, z_set2, z_kil, List.set_cons_zero, List.set_cons_succ, List.take_succ_cons, List.take_zero, List.drop_succ_cons, List.drop_zero, List.reverse_cons, List.reverse_nil, List.nil_append, List.cons_append, List.getD_cons_succ, List.getD_cons_zero, List.getD_nil, List.length_cons, List.length_nil, List.map_cons, List.map_nil, List.sum_cons, List.sum_nil, Nat.reduceAdd, Nat.reduceLeDiff, Value.category, Option.toList, true_or, or_true, z_ua, ↓reduceIte, Nat.reduceEqDiff, eq_self, not_true_eq_false, not_false_eq_true, false_implies, true_implies, Classical.not_not, Nat.le_refl, Nat.zero_le, q1, h1]
    try dsimp only
    refine ⟨fun _ => ?_, fun hc => absurd (nI_le (Nat.le_refl _) (by omega)) hc⟩
    refine zW_ok hj B40_52 52 _ _ _ _ _ b40_52 ?_
    simp only [B40_52, zW, z_wp1, z_ld, z_f0, z_f1, z_f2, z_f3, List.getElem?_cons_zero, List.getElem?_cons_succ, true_and, and_true, Int32.reduceOfInt, z_i10, z_i01, Int32.reduceLT, Int32.reduceLE, Int32.reduceAdd, Int32.reduceSub, z_set, z_set2, z_kil, List.set_cons_zero, List.set_cons_succ, List.take_succ_cons, List.take_zero, List.drop_succ_cons, List.drop_zero, List.reverse_cons, List.reverse_nil, List.nil_append, List.cons_append, List.getD_cons_succ, List.getD_cons_zero, List.getD_nil, List.length_cons, List.length_nil, List.map_cons, List.map_nil, List.sum_cons, List.sum_nil, Nat.reduceAdd, Nat.reduceLeDiff, Value.category, Option.toList, true_or, or_true, z_ua, ↓reduceIte, Nat.reduceEqDiff, eq_self, not_true_eq_false, not_false_eq_true, false_implies, true_implies, Classical.not_not, Nat.le_refl, Nat.zero_le]
    try dsimp only
    exact hQ _ _ ⟨by rw [← hv]; rfl, rfl⟩
  | y :: rest, i, x, hr, hi, hv => by
    obtain ⟨q1, q2, q3, q4, q5, q6, q7, q8, q9, q10, q11, q12, q13, q14⟩ := id hL
    obtain ⟨r1, r2, r3, r4, r5, r6, r7, r8, r9, r10, r11, r12, r13, r14, r15⟩ := id hL2
    obtain ⟨h1, h2, h3⟩ := id hR
    have hl : i < LL.length := by
      have : 0 < (LL.drop i).length := by rw [hr]; simp
      rw [List.length_drop] at this
      omega
    obtain ⟨u, hu, g1, g2, g3⟩ := h3 i y (by
      have : (LL.drop i)[0]? = some y := by rw [hr]; rfl
      rwa [List.getElem?_drop, Nat.add_zero] at this)
    have hr' : LL.drop (i + 1) = rest := by rw [← List.drop_drop, hr]; rfl
    have e2 : (nI i).toNatClampNeg = i := nI_clamp (by omega)
    have e3 : vp_in (nI i) S2 := vp_in_nI (by omega) (by omega)
    have e4 : (nI u).toNatClampNeg = u := nI_clamp (by omega)
    have e5 : vp_in (nI u) S := vp_in_nI (by omega) (by omega)
    have go : ¬ (y.1 &&& I lp 12 = y.1 ∧ ¬ y.2 &&& I lp 12 = y.2) → zV X 46 [some (.ref lp), some (.int (nI i)), some (.int (nI u))] [] (n, K, L, I, J, G) 0 0 := by
      intro hn
      refine zW_ok hj B40_46 46 _ _ _ _ _ b40_46 ?_
      simp only [B40_46, zW, z_wp1, z_ld, z_f0, z_f1, z_f2, z_f3, List.getElem?_cons_zero, List.getElem?_cons_succ, true_and, and_true, Int32.reduceOfInt, z_i10, z_i01, Int32.reduceLT, Int32.reduceLE, Int32.reduceAdd, Int32.reduceSub, z_set, z_set2, z_kil, List.set_cons_zero, List.set_cons_succ, List.take_succ_cons, List.take_zero, List.drop_succ_cons, List.drop_zero, List.reverse_cons, List.reverse_nil, List.nil_append, List.cons_append, List.getD_cons_succ, List.getD_cons_zero, List.getD_nil, List.length_cons, List.length_nil, List.map_cons, List.map_nil, List.sum_cons, List.sum_nil, Nat.reduceAdd, Nat.reduceLeDiff, Value.category, Option.toList, true_or, or_true, z_ua, ↓reduceIte, Nat.reduceEqDiff, eq_self, not_true_eq_false, not_false_eq_true, false_implies, true_implies, Classical.not_not, Nat.le_refl, Nat.zero_le, nI_1]
      try dsimp only
      exact c40_loop hL hL2 hj hR hQ rest (i + 1) _ hr' (by omega) (by rw [← hv, m_ft, if_neg hn])
    refine zW_ok hj B40_2 2 _ _ _ _ _ b40_2 ?_
    simp only [B40_2, zW, z_wp1, z_ld, z_f0, z_f1, z_f2, z_f3, List.getElem?_cons_zero, List.getElem?_cons_succ, true_and, and_true, Int32.reduceOfInt, z_i10, z_i01, Int32.reduceLT, Int32.reduceLE, Int32.reduceAdd, Int32.reduceSub, z_set, z_set2, z_kil, List.set_cons_zero, List.set_cons_succ, List.take_succ_cons, List.take_zero, List.drop_succ_cons, List.drop_zero, List.reverse_cons, List.reverse_nil, List.nil_append, List.cons_append, List.getD_cons_succ, List.getD_cons_zero, List.getD_nil, List.length_cons, List.length_nil, List.map_cons, List.map_nil, List.sum_cons, List.sum_nil, Nat.reduceAdd, Nat.reduceLeDiff, Value.category, Option.toList, true_or, or_true, z_ua, ↓reduceIte, Nat.reduceEqDiff, eq_self, not_true_eq_false, not_false_eq_true, false_implies, true_implies, Classical.not_not, Nat.le_refl, Nat.zero_le, q1, h1, q2, q3, q4, r5, r6, r7, e2, e3, g1, e4, e5, z_dsub']
    try dsimp only
    rw [← g2, ← g3] at *
    refine ⟨fun hc => absurd hc (nI_ge (by omega) (by omega)), fun _ => ⟨fun a => go (fun q => a q.1), fun a => ⟨fun b => go (fun q => q.2 b), fun b => ?_⟩⟩⟩
    refine hQ _ _ ⟨?_, rfl⟩
    rw [← hv, m_ft, if_pos ⟨a, b⟩]
    rfl
theorem c40 (hL : XL K L G lp c1 c2 S) (hL2 : XL2 K L G lp c1 c3 c4 S2) {LL : List (Int32 × Int32)} (hR : XR I lp c1 c4 S S2 LL) : z_D l 0 40 [.ref lp] (n, K, L, I, J, G) (some (.int (m_oi (m_ft (I lp 12) LL 0)))) (n, K, L, I, J, G) := by
  refine z_ctr (by decide) (by decide +kernel) (Nat.le_of_ble_eq_true rfl) (by decide +kernel) (fun X hl hj hd hm hs hsc hQ => ?_)
  show zV X 0 [some (.ref lp), none, none] [] _ 0 0
  refine zW_ok hj B40_0 0 _ _ _ _ _ b40_0 ?_
  simp only [B40_0, zW, z_wp1, z_ld, z_f0, z_f1, z_f2, z_f3, List.getElem?_cons_zero, List.getElem?_cons_succ, true_and, and_true, Int32.reduceOfInt, z_i10, z_i01, Int32.reduceLT, Int32.reduceLE, Int32.reduceAdd, Int32.reduceSub, z_set, z_set2, z_kil, List.set_cons_zero, List.set_cons_succ, List.take_succ_cons, List.take_zero, List.drop_succ_cons, List.drop_zero, List.reverse_cons, List.reverse_nil, List.nil_append, List.cons_append, List.getD_cons_succ, List.getD_cons_zero, List.getD_nil, List.length_cons, List.length_nil, List.map_cons, List.map_nil, List.sum_cons, List.sum_nil, Nat.reduceAdd, Nat.reduceLeDiff, Value.category, Option.toList, true_or, or_true, z_ua, ↓reduceIte, Nat.reduceEqDiff, eq_self, not_true_eq_false, not_false_eq_true, false_implies, true_implies, Classical.not_not, Nat.le_refl, Nat.zero_le]
  try dsimp only
  exact c40_loop hL hL2 hj hR hQ LL 0 none rfl (Nat.zero_le _) rfl
theorem nI_m1 {i : Nat} (h : i < 2 ^ 31) : ¬ nI i = -1 := by
  intro e
  have h1 := nI_pos h
  rw [e] at h1
  exact h1 (by decide)
theorem XR.congr {I I' : Nat → Nat → Int32} {LL : List (Int32 × Int32)} (h : XR I lp c1 c4 S S2 LL) (h1 : I' lp 8 = I lp 8) (h2 : I' c1 = I c1) (h3 : I' c4 = I c4) : XR I' lp c1 c4 S S2 LL := by
  unfold XR at *
  rw [h1, h2, h3]
  exact h
theorem c39_loop {X : zX} (hS : SS K L G) (hlp : lp = 22 ∨ lp = 28) (hL : XL K L G lp c1 c2 S) (hL2 : XL2 K L G lp c1 c3 c4 S2) (hsp : lp + 5 ≠ c1 ∧ lp + 5 ≠ c4) (hj : X.2.1 = 39) (hd : X.2.2.1 = 1) (hm : X.2.2.2.1 = 0) (hs : X.2.2.2.2.1 = 0) {LL : List (Int32 × Int32)} (hR : XR I lp c1 c4 S S2 LL) {set : Int32} {R : List Nat × Int32} (hQ : ∀ r h', (r = none ∧ ∃ I', h' = (n, K, L, I', J, G) ∧ (∀ q, q ≠ lp → q ≠ lp + 5 → I' q = I q) ∧ (∀ k, k ≠ 11 → k ≠ 12 → I' lp k = I lp k) ∧ I' lp 11 = nI R.1.length ∧ m_lst (I' (lp + 5)) (R.1.map nI) ∧ I' lp 12 = R.2) → X.2.2.2.2.2.2 r h') : ∀ (k j : Nat) (I' : Nat → Nat → Int32) (acc : List Nat) (has : Int32), j + k = 12 → acc.length = j → (∀ q, q ≠ lp → q ≠ lp + 5 → I' q = I q) → (∀ k, k ≠ 11 → k ≠ 12 → I' lp k = I lp k) → I' lp 11 = nI j → m_lst (I' (lp + 5)) (acc.map nI) → I' lp 12 = has → (acc ++ (m_wk LL k has).1, (m_wk LL k has).2) = R → zV X 22 [some (.ref lp), some (.int set), some (.int (m_oi (m_ft has LL 0)))] [] (n, K, L, I', J, G) 0 0
  | 0, j, I', acc, has, hk, hl, h1, h2, h3, h4, h5, hR' => by
    obtain ⟨q1, q2, q3, q4⟩ := XSt hS hlp
    have e : j = 12 := by omega
    subst e
    have fin : zV X 84 [some (.ref lp), some (.int set), some (.int (m_oi (m_ft has LL 0)))] [] (n, K, L, I', J, G) 0 0 := by
      refine zW_ok hj B39_84 84 _ _ _ _ _ b39_84 ?_
      simp only [B39_84, zW, z_wp1, z_ld, z_f0, z_f1, z_f2, z_f3, List.getElem?_cons_zero, List.getElem?_cons_succ, true_and, and_true, Int32.reduceOfInt, z_i10, z_i01, Int32.reduceLT, Int32.reduceLE, Int32.reduceAdd, Int32.reduceSub, z_set, z_set2, z_kil, List.set_cons_zero, List.set_cons_succ, List.take_succ_cons, List.take_zero, List.drop_succ_cons, List.drop_zero, List.reverse_cons, List.reverse_nil, List.nil_append, List.cons_append, List.getD_cons_succ, List.getD_cons_zero, List.getD_nil, List.length_cons, List.length_nil, List.map_cons, List.map_nil, List.sum_cons, List.sum_nil, Nat.reduceAdd, Nat.reduceLeDiff, Value.category, Option.toList, true_or, or_true, z_ua, ↓reduceIte, Nat.reduceEqDiff, eq_self, not_true_eq_false, not_false_eq_true, false_implies, true_implies, Classical.not_not, Nat.le_refl, Nat.zero_le]
      try dsimp only
      refine hQ _ _ ⟨rfl, I', rfl, h1, h2, ?_⟩
      rw [← hR']
      simp only [m_wk, List.append_nil]
      exact ⟨by rw [hl]; exact h3, h4, h5⟩
    refine zW_ok hj B39_22 22 _ _ _ _ _ b39_22 ?_
    simp only [B39_22, zW, z_wp1, z_ld, z_f0, z_f1, z_f2, z_f3, List.getElem?_cons_zero, List.getElem?_cons_succ, true_and, and_true, Int32.reduceOfInt, z_i10, z_i01, Int32.reduceLT, Int32.reduceLE, Int32.reduceAdd, Int32.reduceSub, z_set, z_set2, z_kil, List.set_cons_zero, List.set_cons_succ, List.take_succ_cons, List.take_zero, List.drop_succ_cons, List.drop_zero, List.reverse_cons, List.reverse_nil, List.nil_append, List.cons_append, List.getD_cons_succ, List.getD_cons_zero, List.getD_nil, List.length_cons, List.length_nil, List.map_cons, List.map_nil, List.sum_cons, List.sum_nil, Nat.reduceAdd, Nat.reduceLeDiff, Value.category, Option.toList, true_or, or_true, z_ua, ↓reduceIte, Nat.reduceEqDiff, eq_self, not_true_eq_false, not_false_eq_true, false_implies, true_implies, Classical.not_not, Nat.le_refl, Nat.zero_le, q1, h3]
    try dsimp only
    exact ⟨fun _ => fin, fun _ => ⟨fun _ => fin, fun hc => absurd (show (12 : Int32) ≤ nI 12 by decide) hc⟩⟩
  | k + 1, j, I', acc, has, hk, hl, h1, h2, h3, h4, h5, hR' => by
    obtain ⟨q1, q2, q3, q4⟩ := XSt hS hlp
    obtain ⟨w1, w2, w3, w4, w5, w6, w7, w8, w9, w10, w11, w12, w13, w14⟩ := id hL
    obtain ⟨r1, r2, r3, r4, r5, r6, r7, r8, r9, r10, r11, r12, r13, r14, r15⟩ := id hL2
    have hRI : XR I' lp c1 c4 S S2 LL := hR.congr (h2 8 (by omega) (by omega)) (h1 c1 w9 hsp.1.symm) (h1 c4 r9 hsp.2.symm)
    cases ho : m_ft has LL 0 with
    | none =>
      refine zW_ok hj B39_22 22 _ _ _ _ _ b39_22 ?_
      simp only [B39_22, zW, z_wp1, z_ld, z_f0, z_f1, z_f2, z_f3, List.getElem?_cons_zero, List.getElem?_cons_succ, true_and, and_true, Int32.reduceOfInt, z_i10, z_i01, Int32.reduceLT, Int32.reduceLE, Int32.reduceAdd, Int32.reduceSub, z_set, z_set2, z_kil, List.set_cons_zero, List.set_cons_succ, List.take_succ_cons, List.take_zero, List.drop_succ_cons, List.drop_zero, List.reverse_cons, List.reverse_nil, List.nil_append, List.cons_append, List.getD_cons_succ, List.getD_cons_zero, List.getD_nil, List.length_cons, List.length_nil, List.map_cons, List.map_nil, List.sum_cons, List.sum_nil, Nat.reduceAdd, Nat.reduceLeDiff, Value.category, Option.toList, true_or, or_true, z_ua, ↓reduceIte, Nat.reduceEqDiff, eq_self, not_true_eq_false, not_false_eq_true, false_implies, true_implies, Classical.not_not, Nat.le_refl, Nat.zero_le, q1, m_oi]
      try dsimp only
      refine zW_ok hj B39_84 84 _ _ _ _ _ b39_84 ?_
      simp only [B39_84, zW, z_wp1, z_ld, z_f0, z_f1, z_f2, z_f3, List.getElem?_cons_zero, List.getElem?_cons_succ, true_and, and_true, Int32.reduceOfInt, z_i10, z_i01, Int32.reduceLT, Int32.reduceLE, Int32.reduceAdd, Int32.reduceSub, z_set, z_set2, z_kil, List.set_cons_zero, List.set_cons_succ, List.take_succ_cons, List.take_zero, List.drop_succ_cons, List.drop_zero, List.reverse_cons, List.reverse_nil, List.nil_append, List.cons_append, List.getD_cons_succ, List.getD_cons_zero, List.getD_nil, List.length_cons, List.length_nil, List.map_cons, List.map_nil, List.sum_cons, List.sum_nil, Nat.reduceAdd, Nat.reduceLeDiff, Value.category, Option.toList, true_or, or_true, z_ua, ↓reduceIte, Nat.reduceEqDiff, eq_self, not_true_eq_false, not_false_eq_true, false_implies, true_implies, Classical.not_not, Nat.le_refl, Nat.zero_le]
      try dsimp only
      refine hQ _ _ ⟨rfl, I', rfl, h1, h2, ?_⟩
      rw [← hR', m_wk_n ho]
      simp only [List.append_nil]
      exact ⟨by rw [hl]; exact h3, h4, h5⟩
    | some i =>
      obtain ⟨_, hlt, r, hr, _, _⟩ := m_ft_some ho
      rw [Nat.sub_zero] at hr
      obtain ⟨u, hu, g1, g2, g3⟩ := hRI.2.2 i r hr
      have hl2 := hRI.2.1
      have e1 : ¬ nI i = -1 := nI_m1 (by omega)
      have e2 : (nI i).toNatClampNeg = i := nI_clamp (by omega)
      have e3 : vp_in (nI i) S2 := vp_in_nI (by omega) (by omega)
      have e4 : (nI u).toNatClampNeg = u := nI_clamp (by omega)
      have e5 : vp_in (nI u) S := vp_in_nI (by omega) (by omega)
      have e6 : (nI j).toNatClampNeg = j := nI_clamp (by omega)
      have e7 : vp_in (nI j) 12 := vp_in_nI (by omega) (by omega)
      have e8 : ¬ (12 : Int32) ≤ nI j := fun q => by
        have := (nI_leI (a := 12) (b := j) (by omega) (by omega)).mp q
        omega
      have d1 : ¬ lp = lp + 5 := by omega
      have d2 : ¬ lp + 5 = lp := by omega
      refine zW_ok hj B39_22 22 _ _ _ _ _ b39_22 ?_
      simp only [B39_22, zW, z_wp1, z_ld, z_f0, z_f1, z_f2, z_f3, List.getElem?_cons_zero, List.getElem?_cons_succ, true_and, and_true, Int32.reduceOfInt, z_i10, z_i01, Int32.reduceLT, Int32.reduceLE, Int32.reduceAdd, Int32.reduceSub, z_set, z_set2, z_kil, List.set_cons_zero, List.set_cons_succ, List.take_succ_cons, List.take_zero, List.drop_succ_cons, List.drop_zero, List.reverse_cons, List.reverse_nil, List.nil_append, List.cons_append, List.getD_cons_succ, List.getD_cons_zero, List.getD_nil, List.length_cons, List.length_nil, List.map_cons, List.map_nil, List.sum_cons, List.sum_nil, Nat.reduceAdd, Nat.reduceLeDiff, Value.category, Option.toList, true_or, or_true, z_ua, ↓reduceIte, Nat.reduceEqDiff, eq_self, not_true_eq_false, not_false_eq_true, false_implies, true_implies, Classical.not_not, Nat.le_refl, Nat.zero_le, q1, m_oi, e1, h3, e8, h5, w2, w3, w4, r5, r6, r7, e2, e3, g1, e4, e5, q2, q3, q4, e6, e7, d1, d2, nI_1]
      try dsimp only
      have hR2 : XR (z_u (z_u (z_u I' lp 12 (has ||| I' c1 u)) (lp + 5) j (nI i)) lp 11 (nI (j + 1))) lp c1 c4 S S2 LL := hRI.congr (by simp [z_u]) (by rw [z_u_ne w9, z_u_ne hsp.1.symm, z_u_ne w9]) (by rw [z_u_ne r9, z_u_ne hsp.2.symm, z_u_ne r9])
      have e9 : z_u (z_u (z_u I' lp 12 (has ||| I' c1 u)) (lp + 5) j (nI i)) lp 11 (nI (j + 1)) lp 12 = has ||| I' c1 u := by simp [z_u]
      have hc40 := c40 (l := X.1) (n := n) (J := J) hL hL2 hR2
      rw [e9] at hc40
      refine z_callD (hc40) (by omega) (by omega) (by omega) (Nat.le_of_ble_eq_true rfl) ?_
      try simp only [zW, z_wp1, z_ld, z_f0, z_f1, z_f2, z_f3, List.getElem?_cons_zero, List.getElem?_cons_succ, true_and, and_true, Int32.reduceOfInt, z_i10, z_i01, Int32.reduceLT, Int32.reduceLE, Int32.reduceAdd, Int32.reduceSub, z_set, z_set2, z_kil, List.set_cons_zero, List.set_cons_succ, List.take_succ_cons, List.take_zero, List.drop_succ_cons, List.drop_zero, List.reverse_cons, List.reverse_nil, List.nil_append, List.cons_append, List.getD_cons_succ, List.getD_cons_zero, List.getD_nil, List.length_cons, List.length_nil, List.map_cons, List.map_nil, List.sum_cons, List.sum_nil, Nat.reduceAdd, Nat.reduceLeDiff, Value.category, Option.toList, true_or, or_true, z_ua, ↓reduceIte, Nat.reduceEqDiff, eq_self, not_true_eq_false, not_false_eq_true, false_implies, true_implies, Classical.not_not, Nat.le_refl, Nat.zero_le]
      try dsimp only
      refine c39_loop hS hlp hL hL2 hsp hj hd hm hs hR hQ k (j + 1) _ (acc ++ [i]) _ (by omega) (by simp; omega) (fun q a b => by rw [z_u_ne a, z_u_ne b, z_u_ne a]; exact h1 q a b) (fun q a b => by rw [z_u_at, if_neg a, z_u_ne d1, z_u_at, if_neg b]; exact h2 q a b) (by simp [z_u]) ?_ e9 ?_
      · rw [z_u_ne d2, List.map_append]
        refine m_lst_add h4 (by simp [z_u, hl]) (fun t ht => ?_)
        simp at ht
        rw [z_u_at, if_neg (by omega), z_u_ne d2]
      · rw [← hR', m_wk_s ho]
        have : (LL.getD i (0, 0)).2 = I' c1 u := by
          rw [List.getD_eq_getElem?_getD, hr]
          exact g3
        rw [this]
        simp
theorem c39 (hS : SS K L G) (hlp : lp = 22 ∨ lp = 28) (hL : XL K L G lp c1 c2 S) (hL2 : XL2 K L G lp c1 c3 c4 S2) (hsp : lp + 5 ≠ c1 ∧ lp + 5 ≠ c4) {LL : List (Int32 × Int32)} (hR : XR I lp c1 c4 S S2 LL) (hN12 : N ≤ 12) (hmk : I lp 0 = nI N) (set : Int32) : z_Ctr l 1 39 [.ref lp, .int set] (n, K, L, I, J, G) 0 0 (fun r h' => r = none ∧ ∃ I', h' = (n, K, L, I', J, G) ∧ (∀ q, q ≠ lp → q ≠ lp + 5 → I' q = I q) ∧ (∀ k, k ≠ 11 → k ≠ 12 → I' lp k = I lp k) ∧ I' lp 11 = nI (m_wk LL 12 (x_bw set N)).1.length ∧ m_lst (I' (lp + 5)) ((m_wk LL 12 (x_bw set N)).1.map nI) ∧ I' lp 12 = (m_wk LL 12 (x_bw set N)).2) := by
  obtain ⟨q1, q2, q3, q4⟩ := XSt hS hlp
  obtain ⟨w1, w2, w3, w4, w5, w6, w7, w8, w9, w10, w11, w12, w13, w14⟩ := id hL
  obtain ⟨r1, r2, r3, r4, r5, r6, r7, r8, r9, r10, r11, r12, r13, r14, r15⟩ := id hL2
  refine z_ctr (by decide) (by decide +kernel) (Nat.le_of_ble_eq_true rfl) (by decide +kernel) (fun X hl hj hd hm hs hsc hQ => ?_)
  show zV X 0 [some (.ref lp), some (.int set), none] [] _ 0 0
  refine zW_ok hj B39_0 0 _ _ _ _ _ b39_0 ?_
  simp only [B39_0, zW, z_wp1, z_ld, z_f0, z_f1, z_f2, z_f3, List.getElem?_cons_zero, List.getElem?_cons_succ, true_and, and_true, Int32.reduceOfInt, z_i10, z_i01, Int32.reduceLT, Int32.reduceLE, Int32.reduceAdd, Int32.reduceSub, z_set, z_set2, z_kil, List.set_cons_zero, List.set_cons_succ, List.take_succ_cons, List.take_zero, List.drop_succ_cons, List.drop_zero, List.reverse_cons, List.reverse_nil, List.nil_append, List.cons_append, List.getD_cons_succ, List.getD_cons_zero, List.getD_nil, List.length_cons, List.length_nil, List.map_cons, List.map_nil, List.sum_cons, List.sum_nil, Nat.reduceAdd, Nat.reduceLeDiff, Value.category, Option.toList, true_or, or_true, z_ua, ↓reduceIte, Nat.reduceEqDiff, eq_self, not_true_eq_false, not_false_eq_true, false_implies, true_implies, Classical.not_not, Nat.le_refl, Nat.zero_le, q1, hmk]
  try dsimp only
  refine z_callD (c157 (N := N) (by omega) set) (by omega) (by omega) (by omega) (Nat.le_of_ble_eq_true rfl) ?_
  try simp only [zW, z_wp1, z_ld, z_f0, z_f1, z_f2, z_f3, List.getElem?_cons_zero, List.getElem?_cons_succ, true_and, and_true, Int32.reduceOfInt, z_i10, z_i01, Int32.reduceLT, Int32.reduceLE, Int32.reduceAdd, Int32.reduceSub, z_set, z_set2, z_kil, List.set_cons_zero, List.set_cons_succ, List.take_succ_cons, List.take_zero, List.drop_succ_cons, List.drop_zero, List.reverse_cons, List.reverse_nil, List.nil_append, List.cons_append, List.getD_cons_succ, List.getD_cons_zero, List.getD_nil, List.length_cons, List.length_nil, List.map_cons, List.map_nil, List.sum_cons, List.sum_nil, Nat.reduceAdd, Nat.reduceLeDiff, Value.category, Option.toList, true_or, or_true, z_ua, ↓reduceIte, Nat.reduceEqDiff, eq_self, not_true_eq_false, not_false_eq_true, false_implies, true_implies, Classical.not_not, Nat.le_refl, Nat.zero_le, q1]
  try dsimp only
  have hR2 : XR (z_u (z_u I lp 12 (x_bw set N)) lp 11 0) lp c1 c4 S S2 LL := hR.congr (by simp [z_u]) (by rw [z_u_ne w9, z_u_ne w9]) (by rw [z_u_ne r9, z_u_ne r9])
  have e9 : z_u (z_u I lp 12 (x_bw set N)) lp 11 0 lp 12 = x_bw set N := by simp [z_u]
  have hc40 := c40 (l := X.1) (n := n) (J := J) hL hL2 hR2
  rw [e9] at hc40
  refine z_callD (hc40) (by omega) (by omega) (by omega) (Nat.le_of_ble_eq_true rfl) ?_
  try simp only [zW, z_wp1, z_ld, z_f0, z_f1, z_f2, z_f3, List.getElem?_cons_zero, List.getElem?_cons_succ, true_and, and_true, Int32.reduceOfInt, z_i10, z_i01, Int32.reduceLT, Int32.reduceLE, Int32.reduceAdd, Int32.reduceSub, z_set, z_set2, z_kil, List.set_cons_zero, List.set_cons_succ, List.take_succ_cons, List.take_zero, List.drop_succ_cons, List.drop_zero, List.reverse_cons, List.reverse_nil, List.nil_append, List.cons_append, List.getD_cons_succ, List.getD_cons_zero, List.getD_nil, List.length_cons, List.length_nil, List.map_cons, List.map_nil, List.sum_cons, List.sum_nil, Nat.reduceAdd, Nat.reduceLeDiff, Value.category, Option.toList, true_or, or_true, z_ua, ↓reduceIte, Nat.reduceEqDiff, eq_self, not_true_eq_false, not_false_eq_true, false_implies, true_implies, Classical.not_not, Nat.le_refl, Nat.zero_le]
  try dsimp only
  exact c39_loop (I := I) hS hlp hL hL2 hsp hj hd hm hs hR hQ 12 0 _ [] _ rfl rfl (fun q a b => by rw [z_u_ne a, z_u_ne a]) (fun q a b => by rw [z_u_at, if_neg a, z_u_at, if_neg b]) (by simp [z_u, nI_0]) (fun t x h => by simp at h) e9 (by simp)
end LAT7
