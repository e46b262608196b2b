/-! The public methods: exploring -/
section PUB3
variable {l : Launch} {n : Nat} {K L : Nat → Nat} {I : Nat → Nat → Int32} {J : Nat → Nat → Int64} {G : Nat → Nat → Value} {M : Nat → Nat → Int32} {c F N : Nat} {tr : Nat → (Int32 → Int32) → Int32} {cd : Nat} {D : Nat → Nat} {ch rr : Nat}
theorem mGe.rf (M : Nat → Nat → Int32) : mGe M M := ⟨fun _ _ => rfl, fun _ _ => rfl⟩
/-- the two explorings -/
def x_eq (I M : Nat → Nat → Int32) (EN E A : Nat) : Prop := (∀ e, e < E → b_in EN (M 90 e) ∧ I 35 e = x_bw (M 90 e) EN) ∧ ∀ k, k < A → b_in EN (M 91 k) ∧ b_in EN (M 92 k) ∧ I 36 k = x_bw (M 91 k) EN ∧ I 37 k = x_bw (M 92 k) EN
theorem x_eq.cl {EN E A : Nat} (h : x_eq I M EN E A) (hN : EN ≤ 12) {s : Int32} (hs : b_in EN s) : b_in EN (m_clo (M 90) s (nI (2 ^ EN) - 1) E) ∧ x_ecl I EN E (x_bw s EN) = x_bw (m_clo (M 90) s (nI (2 ^ EN) - 1) E) EN := by
  obtain ⟨b1, b2⟩ := b_full (N := EN) (by omega)
  obtain ⟨c1, c2⟩ := b_clo (N := EN) (row := M 90) (by omega) hs b1 (F := E) (fun f hf => (h.1 f hf).1)
  rw [b2] at c2
  refine ⟨c1, ?_⟩
  rw [← c2]
  exact m_clo_congr (fun g hg => (h.1 g hg).2)
theorem x_eq.kp {EN E A : Nat} (h : x_eq I M EN E A) (hN : EN ≤ 12) {s : Int32} (hs : b_in EN s) : x_ekp I A (x_bw s EN) ↔ m_keeps (M 91) (M 92) s A := b_kps (by omega) h.2 hs
theorem x_eq.qu {EN E A : Nat} (h : x_eq I M EN E A) (hN : EN ≤ 12) : x_qu I EN E A = m_qu M EN E A := b_fq (by omega) (fun s hs => h.cl hN hs) (fun s hs => h.kp hN hs) (2 ^ EN) 0 (by omega)
theorem x_eq.o {EN E A : Nat} (h : x_eq I M EN E A) {I' : Nat → Nat → Int32} (he : x_eo I I') : x_eq I' M EN E A := by
  unfold x_eq at *
  rw [he.1 35 (by omega), he.1 36 (by omega), he.1 37 (by omega)]
  exact h
/-- question -/
theorem d137a (hx : XI n K L I J G M c F N tr cd D ch rr) (hr : rr < 600) (hE : ¬ M 71 38 = 0) {EN E A v0 v : Nat} (he1 : x_ex I EN E A v0) (he2 : x_ah I EN E A v0) (he3 : m_ex M EN E A) (he4 : x_eq I M EN E A) (hb : ¬ I 34 0 = 0) (hv : m_qu M EN E A = some v) {w : Int32} (hw : 0 ≤ w ∧ w ≤ 1) : z_Ctr l 6 137 [.ref 5, .int w] (n, K, L, I, J, G) 0 0 (x_po n I J M c F N tr (rr + 1) (x_u L D) (.int (if w = 0 then mS EN v else m_clo (M 90) (mS EN v) (nI (2 ^ EN) - 1) E))) := by
  have hS : SS K L G := hx.S
  have hEN : EN ≤ 12 := he1.2.2.1
  have hqu : x_qu I EN E A = some v := by rw [he4.qu hEN]; exact hv
  have n1 : ¬ w < 0 := Int32.not_lt.mpr hw.1
  have n2 : ¬ 1 < w := Int32.not_lt.mpr hw.2
  refine z_ctr (by decide) (by decide +kernel) (Nat.le_of_ble_eq_true rfl) (by decide +kernel) (fun X hl hj hd hm hs hsc hQ => ?_)
  show zV X 0 [some (.ref 5), some (.int w)] [] _ 0 0
  subst hl
  refine zW_ok hj B137_0 0 _ _ _ _ _ b137_0 ?_
  simp only [B137_0, zW, z_wp1, z_ld, z_f0, z_f1, z_f2, z_f3, List.getElem?_cons_zero, List.getElem?_cons_succ, true_and, and_true, Int32.reduceOfInt, z_i10, z_i01, Int32.reduceLT, Int32.reduceLE, Int32.reduceAdd, Int32.reduceSub, z_set, z_set2, z_kil, List.set_cons_zero, List.set_cons_succ, List.take_succ_cons, List.take_zero, List.drop_succ_cons, List.drop_zero, List.reverse_cons, List.reverse_nil, List.nil_append, List.cons_append, List.getD_cons_succ, List.getD_cons_zero, List.getD_nil, List.length_cons, List.length_nil, List.map_cons, List.map_nil, List.sum_cons, List.sum_nil, Nat.reduceAdd, Nat.reduceLeDiff, Value.category, Option.toList, true_or, or_true, z_ua, ↓reduceIte, Nat.reduceEqDiff, eq_self, not_true_eq_false, not_false_eq_true, false_implies, true_implies, Classical.not_not, Nat.le_refl, Nat.zero_le, n1, n2, sK5 hS, sG5_3 hS, sK34 hS]
  try dsimp only
  refine z_callQ (c11' (n := n) (J := J) hS hb he1 he2 hqu) (by omega) (by omega) (by omega) (Nat.le_of_ble_eq_true rfl) ?_
  intro r h' q
  obtain ⟨I', rfl, eo, -, q2⟩ := e11 he1 he2 hqu q
  obtain ⟨rfl, x1, x2, x3, x4⟩ := q2 v rfl
  have hx' : XI n K L I' J G M c F N tr cd D ch rr := hx.ex (fun q hq => eo.1 q (by omega)) (mGe.rf M) (Or.inr ⟨by rw [eo.2 0 (by omega) (by omega)]; exact hb, hE, EN, E, A, v, x1, x2, he3, (he4.o eo).1, (he4.o eo).2⟩)
  have po := fun y => x_po.same hx hr hx' (fun q a _ => eo.1 q (by omega)) y
  simp only [zW, z_wp1, z_ld, z_f0, z_f1, z_f2, z_f3, List.getElem?_cons_zero, List.getElem?_cons_succ, true_and, and_true, Int32.reduceOfInt, z_i10, z_i01, Int32.reduceLT, Int32.reduceLE, Int32.reduceAdd, Int32.reduceSub, z_set, z_set2, z_kil, List.set_cons_zero, List.set_cons_succ, List.take_succ_cons, List.take_zero, List.drop_succ_cons, List.drop_zero, List.reverse_cons, List.reverse_nil, List.nil_append, List.cons_append, List.getD_cons_succ, List.getD_cons_zero, List.getD_nil, List.length_cons, List.length_nil, List.map_cons, List.map_nil, List.sum_cons, List.sum_nil, Nat.reduceAdd, Nat.reduceLeDiff, Value.category, Option.toList, true_or, or_true, z_ua, ↓reduceIte, Nat.reduceEqDiff, eq_self, not_true_eq_false, not_false_eq_true, false_implies, true_implies, Classical.not_not, Nat.le_refl, Nat.zero_le]
  try dsimp only
  have eS : x_bw (nI v) EN = mS EN v := (mS_bw (by omega)).symm
  have eC : x_bw (I' 34 9) EN = m_clo (M 90) (mS EN v) (nI (2 ^ EN) - 1) E := by
    rw [x4, nI_mS (by omega) x3]
    obtain ⟨c1, c2⟩ := he4.cl hEN (mS_in (N := EN) (v := v) (by omega))
    rw [c2, b_inv (by omega) c1]
  by_cases h0 : w = 0
  · rw [if_pos h0] at hQ
    refine zW_ok hj B137_21 21 _ _ _ _ _ b137_21 ?_
    simp only [B137_21, zW, z_wp1, z_ld, z_f0, z_f1, z_f2, z_f3, List.getElem?_cons_zero, List.getElem?_cons_succ, true_and, and_true, Int32.reduceOfInt, z_i10, z_i01, Int32.reduceLT, Int32.reduceLE, Int32.reduceAdd, Int32.reduceSub, z_set, z_set2, z_kil, List.set_cons_zero, List.set_cons_succ, List.take_succ_cons, List.take_zero, List.drop_succ_cons, List.drop_zero, List.reverse_cons, List.reverse_nil, List.nil_append, List.cons_append, List.getD_cons_succ, List.getD_cons_zero, List.getD_nil, List.length_cons, List.length_nil, List.map_cons, List.map_nil, List.sum_cons, List.sum_nil, Nat.reduceAdd, Nat.reduceLeDiff, Value.category, Option.toList, true_or, or_true, z_ua, ↓reduceIte, Nat.reduceEqDiff, eq_self, not_true_eq_false, not_false_eq_true, false_implies, true_implies, Classical.not_not, Nat.le_refl, Nat.zero_le, h0, sK5 hS, sG5_3 hS, sK34 hS]
    try dsimp only
    refine z_callD (c12 (I := I') (J := J) hS x1) (by omega) (by omega) (by omega) (Nat.le_of_ble_eq_true rfl) ?_
    try simp only [zW, z_wp1, z_ld, z_f0, z_f1, z_f2, z_f3, List.getElem?_cons_zero, List.getElem?_cons_succ, true_and, and_true, Int32.reduceOfInt, z_i10, z_i01, Int32.reduceLT, Int32.reduceLE, Int32.reduceAdd, Int32.reduceSub, z_set, z_set2, z_kil, List.set_cons_zero, List.set_cons_succ, List.take_succ_cons, List.take_zero, List.drop_succ_cons, List.drop_zero, List.reverse_cons, List.reverse_nil, List.nil_append, List.cons_append, List.getD_cons_succ, List.getD_cons_zero, List.getD_nil, List.length_cons, List.length_nil, List.map_cons, List.map_nil, List.sum_cons, List.sum_nil, Nat.reduceAdd, Nat.reduceLeDiff, Value.category, Option.toList, true_or, or_true, z_ua, ↓reduceIte, Nat.reduceEqDiff, eq_self, not_true_eq_false, not_false_eq_true, false_implies, true_implies, Classical.not_not, Nat.le_refl, Nat.zero_le]
    try dsimp only
    refine zW_ok hj B137_42 42 _ _ _ _ _ b137_42 ?_
    simp only [B137_42, zW, z_wp1, z_ld, z_f0, z_f1, z_f2, z_f3, List.getElem?_cons_zero, List.getElem?_cons_succ, true_and, and_true, Int32.reduceOfInt, z_i10, z_i01, Int32.reduceLT, Int32.reduceLE, Int32.reduceAdd, Int32.reduceSub, z_set, z_set2, z_kil, List.set_cons_zero, List.set_cons_succ, List.take_succ_cons, List.take_zero, List.drop_succ_cons, List.drop_zero, List.reverse_cons, List.reverse_nil, List.nil_append, List.cons_append, List.getD_cons_succ, List.getD_cons_zero, List.getD_nil, List.length_cons, List.length_nil, List.map_cons, List.map_nil, List.sum_cons, List.sum_nil, Nat.reduceAdd, Nat.reduceLeDiff, Value.category, Option.toList, true_or, or_true, z_ua, ↓reduceIte, Nat.reduceEqDiff, eq_self, not_true_eq_false, not_false_eq_true, false_implies, true_implies, Classical.not_not, Nat.le_refl, Nat.zero_le]
    try dsimp only
    rw [eS]
    exact hQ _ _ (po _)
  · rw [if_neg h0] at hQ
    refine zW_ok hj B137_21 21 _ _ _ _ _ b137_21 ?_
    simp only [B137_21, zW, z_wp1, z_ld, z_f0, z_f1, z_f2, z_f3, List.getElem?_cons_zero, List.getElem?_cons_succ, true_and, and_true, Int32.reduceOfInt, z_i10, z_i01, Int32.reduceLT, Int32.reduceLE, Int32.reduceAdd, Int32.reduceSub, z_set, z_set2, z_kil, List.set_cons_zero, List.set_cons_succ, List.take_succ_cons, List.take_zero, List.drop_succ_cons, List.drop_zero, List.reverse_cons, List.reverse_nil, List.nil_append, List.cons_append, List.getD_cons_succ, List.getD_cons_zero, List.getD_nil, List.length_cons, List.length_nil, List.map_cons, List.map_nil, List.sum_cons, List.sum_nil, Nat.reduceAdd, Nat.reduceLeDiff, Value.category, Option.toList, true_or, or_true, z_ua, ↓reduceIte, Nat.reduceEqDiff, eq_self, not_true_eq_false, not_false_eq_true, false_implies, true_implies, Classical.not_not, Nat.le_refl, Nat.zero_le, h0]
    try dsimp only
    refine zW_ok hj B137_35 35 _ _ _ _ _ b137_35 ?_
    simp only [B137_35, zW, z_wp1, z_ld, z_f0, z_f1, z_f2, z_f3, List.getElem?_cons_zero, List.getElem?_cons_succ, true_and, and_true, Int32.reduceOfInt, z_i10, z_i01, Int32.reduceLT, Int32.reduceLE, Int32.reduceAdd, Int32.reduceSub, z_set, z_set2, z_kil, List.set_cons_zero, List.set_cons_succ, List.take_succ_cons, List.take_zero, List.drop_succ_cons, List.drop_zero, List.reverse_cons, List.reverse_nil, List.nil_append, List.cons_append, List.getD_cons_succ, List.getD_cons_zero, List.getD_nil, List.length_cons, List.length_nil, List.map_cons, List.map_nil, List.sum_cons, List.sum_nil, Nat.reduceAdd, Nat.reduceLeDiff, Value.category, Option.toList, true_or, or_true, z_ua, ↓reduceIte, Nat.reduceEqDiff, eq_self, not_true_eq_false, not_false_eq_true, false_implies, true_implies, Classical.not_not, Nat.le_refl, Nat.zero_le, sK5 hS, sG5_3 hS, sK34 hS]
    try dsimp only
    refine z_callD (c13 (I := I') (J := J) hS x1) (by omega) (by omega) (by omega) (Nat.le_of_ble_eq_true rfl) ?_
    try simp only [zW, z_wp1, z_ld, z_f0, z_f1, z_f2, z_f3, List.getElem?_cons_zero, List.getElem?_cons_succ, true_and, and_true, Int32.reduceOfInt, z_i10, z_i01, Int32.reduceLT, Int32.reduceLE, Int32.reduceAdd, Int32.reduceSub, z_set, z_set2, z_kil, List.set_cons_zero, List.set_cons_succ, List.take_succ_cons, List.take_zero, List.drop_succ_cons, List.drop_zero, List.reverse_cons, List.reverse_nil, List.nil_append, List.cons_append, List.getD_cons_succ, List.getD_cons_zero, List.getD_nil, List.length_cons, List.length_nil, List.map_cons, List.map_nil, List.sum_cons, List.sum_nil, Nat.reduceAdd, Nat.reduceLeDiff, Value.category, Option.toList, true_or, or_true, z_ua, ↓reduceIte, Nat.reduceEqDiff, eq_self, not_true_eq_false, not_false_eq_true, false_implies, true_implies, Classical.not_not, Nat.le_refl, Nat.zero_le]
    try dsimp only
    refine zW_ok hj B137_42 42 _ _ _ _ _ b137_42 ?_
    simp only [B137_42, zW, z_wp1, z_ld, z_f0, z_f1, z_f2, z_f3, List.getElem?_cons_zero, List.getElem?_cons_succ, true_and, and_true, Int32.reduceOfInt, z_i10, z_i01, Int32.reduceLT, Int32.reduceLE, Int32.reduceAdd, Int32.reduceSub, z_set, z_set2, z_kil, List.set_cons_zero, List.set_cons_succ, List.take_succ_cons, List.take_zero, List.drop_succ_cons, List.drop_zero, List.reverse_cons, List.reverse_nil, List.nil_append, List.cons_append, List.getD_cons_succ, List.getD_cons_zero, List.getD_nil, List.length_cons, List.length_nil, List.map_cons, List.map_nil, List.sum_cons, List.sum_nil, Nat.reduceAdd, Nat.reduceLeDiff, Value.category, Option.toList, true_or, or_true, z_ua, ↓reduceIte, Nat.reduceEqDiff, eq_self, not_true_eq_false, not_false_eq_true, false_implies, true_implies, Classical.not_not, Nat.le_refl, Nat.zero_le]
    try dsimp only
    rw [eC]
    exact hQ _ _ (po _)
/-- seek that finds nothing, or a wrong what -/
theorem d137b (hx : XI n K L I J G M c F N tr cd D ch rr) (hr : rr < 600) {w : Int32} (h : ¬ ((0 ≤ w ∧ w ≤ 1) ∧ ¬ M 71 38 = 0 ∧ ∃ EN E A v, m_ex M EN E A ∧ m_qu M EN E A = some v)) : z_Ctr l 6 137 [.ref 5, .int w] (n, K, L, I, J, G) 0 0 (x_po n I J M c F N tr (rr + 1) (x_u L D) (.int (-1))) := by
  have hS : SS K L G := hx.S
  refine z_ctr (by decide) (by decide +kernel) (Nat.le_of_ble_eq_true rfl) (by decide +kernel) (fun X hl hj hd hm hs hsc hQ => ?_)
  show zV X 0 [some (.ref 5), some (.int w)] [] _ 0 0
  subst hl
  have no : ∀ I', XI n K L I' J G M c F N tr cd D ch rr → (∀ q, 71 ≤ q → q ≤ 102 → I' q = I q) → zV X 19 [some (.ref 5), some (.int w)] [] (n, K, L, I', J, G) 0 0 := by
    intro I' hx' hI
    refine zW_ok hj B137_19 19 _ _ _ _ _ b137_19 ?_
    simp only [B137_19, zW, z_wp1, z_ld, z_f0, z_f1, z_f2, z_f3, List.getElem?_cons_zero, List.getElem?_cons_succ, true_and, and_true, Int32.reduceOfInt, z_i10, z_i01, Int32.reduceLT, Int32.reduceLE, Int32.reduceAdd, Int32.reduceSub, z_set, z_set2, z_kil, List.set_cons_zero, List.set_cons_succ, List.take_succ_cons, List.take_zero, List.drop_succ_cons, List.drop_zero, List.reverse_cons, List.reverse_nil, List.nil_append, List.cons_append, List.getD_cons_succ, List.getD_cons_zero, List.getD_nil, List.length_cons, List.length_nil, List.map_cons, List.map_nil, List.sum_cons, List.sum_nil, Nat.reduceAdd, Nat.reduceLeDiff, Value.category, Option.toList, true_or, or_true, z_ua, ↓reduceIte, Nat.reduceEqDiff, eq_self, not_true_eq_false, not_false_eq_true, false_implies, true_implies, Classical.not_not, Nat.le_refl, Nat.zero_le]
    try dsimp only
    exact hQ _ _ (x_po.same hx hr hx' hI _)
  refine zW_ok hj B137_0 0 _ _ _ _ _ b137_0 ?_
  simp only [B137_0, zW, z_wp1, z_ld, z_f0, z_f1, z_f2, z_f3, List.getElem?_cons_zero, List.getElem?_cons_succ, true_and, and_true, Int32.reduceOfInt, z_i10, z_i01, Int32.reduceLT, Int32.reduceLE, Int32.reduceAdd, Int32.reduceSub, z_set, z_set2, z_kil, List.set_cons_zero, List.set_cons_succ, List.take_succ_cons, List.take_zero, List.drop_succ_cons, List.drop_zero, List.reverse_cons, List.reverse_nil, List.nil_append, List.cons_append, List.getD_cons_succ, List.getD_cons_zero, List.getD_nil, List.length_cons, List.length_nil, List.map_cons, List.map_nil, List.sum_cons, List.sum_nil, Nat.reduceAdd, Nat.reduceLeDiff, Value.category, Option.toList, true_or, or_true, z_ua, ↓reduceIte, Nat.reduceEqDiff, eq_self, not_true_eq_false, not_false_eq_true, false_implies, true_implies, Classical.not_not, Nat.le_refl, Nat.zero_le, sK5 hS, sG5_3 hS, sK34 hS]
  try dsimp only
  refine ⟨fun _ => no I hx (fun _ _ _ => rfl), fun h1 => ⟨fun _ => no I hx (fun _ _ _ => rfl), fun h2 => ?_⟩⟩
  have hw : 0 ≤ w ∧ w ≤ 1 := ⟨Int32.not_lt.mp h1, Int32.not_lt.mp h2⟩
  rcases hx.2.2.2.2.2.2.2.2.1 with ⟨b0, -⟩ | ⟨b0, b1, EN, E, A, v0, he1, he2, he3, he4⟩
  · refine z_callD (c11n (I := I) (J := J) hS b0) (by omega) (by omega) (by omega) (Nat.le_of_ble_eq_true rfl) ?_
    try simp only [zW, z_wp1, z_ld, z_f0, z_f1, z_f2, z_f3, List.getElem?_cons_zero, List.getElem?_cons_succ, true_and, and_true, Int32.reduceOfInt, z_i10, z_i01, Int32.reduceLT, Int32.reduceLE, Int32.reduceAdd, Int32.reduceSub, z_set, z_set2, z_kil, List.set_cons_zero, List.set_cons_succ, List.take_succ_cons, List.take_zero, List.drop_succ_cons, List.drop_zero, List.reverse_cons, List.reverse_nil, List.nil_append, List.cons_append, List.getD_cons_succ, List.getD_cons_zero, List.getD_nil, List.length_cons, List.length_nil, List.map_cons, List.map_nil, List.sum_cons, List.sum_nil, Nat.reduceAdd, Nat.reduceLeDiff, Value.category, Option.toList, true_or, or_true, z_ua, ↓reduceIte, Nat.reduceEqDiff, eq_self, not_true_eq_false, not_false_eq_true, false_implies, true_implies, Classical.not_not, Nat.le_refl, Nat.zero_le]
    try dsimp only
    exact no I hx (fun _ _ _ => rfl)
  · have hEN : EN ≤ 12 := he1.2.2.1
    have he4' : x_eq I M EN E A := he4
    have hqu : x_qu I EN E A = none := by
      rw [he4'.qu hEN]
      cases hz : m_qu M EN E A with
      | none => rfl
      | some v => exact absurd ⟨hw, b1, EN, E, A, v, he3, hz⟩ h
    refine z_callQ (c11' (n := n) (J := J) hS b0 he1 he2 hqu) (by omega) (by omega) (by omega) (Nat.le_of_ble_eq_true rfl) ?_
    intro r h' q
    obtain ⟨I', rfl, eo, q1, -⟩ := e11 he1 he2 hqu q
    obtain ⟨rfl, x1, x2⟩ := q1 rfl
    have hx' : XI n K L I' J G M c F N tr cd D ch rr := hx.ex (fun q hq => eo.1 q (by omega)) (mGe.rf M) (Or.inr ⟨by rw [eo.2 0 (by omega) (by omega)]; exact b0, b1, EN, E, A, _, x1, x2, he3, (he4'.o eo).1, (he4'.o eo).2⟩)
    simp only [zW, z_wp1, z_ld, z_f0, z_f1, z_f2, z_f3, List.getElem?_cons_zero, List.getElem?_cons_succ, true_and, and_true, Int32.reduceOfInt, z_i10, z_i01, Int32.reduceLT, Int32.reduceLE, Int32.reduceAdd, Int32.reduceSub, z_set, z_set2, z_kil, List.set_cons_zero, List.set_cons_succ, List.take_succ_cons, List.take_zero, List.drop_succ_cons, List.drop_zero, List.reverse_cons, List.reverse_nil, List.nil_append, List.cons_append, List.getD_cons_succ, List.getD_cons_zero, List.getD_nil, List.length_cons, List.length_nil, List.map_cons, List.map_nil, List.sum_cons, List.sum_nil, Nat.reduceAdd, Nat.reduceLeDiff, Value.category, Option.toList, true_or, or_true, z_ua, ↓reduceIte, Nat.reduceEqDiff, eq_self, not_true_eq_false, not_false_eq_true, false_implies, true_implies, Classical.not_not, Nat.le_refl, Nat.zero_le]
    try dsimp only
    exact no I' hx' (fun q a _ => eo.1 q (by omega))
end PUB3
