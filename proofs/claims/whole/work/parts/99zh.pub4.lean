/-! The public methods: exploring goes on -/
/-- what is seen of the model is the same, but for these fields and places -/
def mGd (fk fq : Nat → Prop) (M M' : Nat → Nat → Int32) : Prop := (∀ q, (72 ≤ q ∧ q ≤ 82) ∨ (90 ≤ q ∧ q ≤ 92) ∨ q = 97 → ¬ fq q → M' q = M q) ∧ ∀ k, mQ k → ¬ fk k → M' 71 k = M 71 k
/-- behind a public method that changes the model's state: the invariant for every model that has changed so -/
def x_pq (n : Nat) (I : Nat → Nat → Int32) (J : Nat → Nat → Int64) (P : (Nat → Nat → Int32) → Prop) (c F N : Nat) (tr : Nat → (Int32 → Int32) → Int32) (rr u : Nat) (v : Value) : Option Value → zH → Prop := fun r h' => r = some v ∧ ∃ n' K' L' I' J' G' cd D ch, h' = (n', K', L', I', J', G') ∧ (∀ M', P M' → XI n' K' L' I' J' G' M' c F N tr cd D ch rr) ∧ SS K' L' G' ∧ u ≤ x_u L' D ∧ (∀ q, 71 ≤ q → q ≤ 102 → I' q = I q ∧ J' q = J q) ∧ n ≤ n'
section PUB4
variable {l : Launch} {n : Nat} {K L : Nat → Nat} {I : Nat → Nat → Int32} {J : Nat → Nat → Int64} {G : Nat → Nat → Value} {M : Nat → Nat → Int32} {c F N : Nat} {tr : Nat → (Int32 → Int32) → Int32} {cd : Nat} {D : Nat → Nat} {ch rr : Nat}
theorem x_po.q {rr u : Nat} {v : Value} {r : Option Value} {h' : zH} (h : x_po n I J M c F N tr rr u v r h') : x_pq n I J (mGG M) c F N tr rr u v r h' := by
  obtain ⟨h1, n', K', L', I', J', G', cd, D, ch, h2, h3, h4⟩ := h
  exact ⟨h1, n', K', L', I', J', G', cd, D, ch, h2, fun M' hM => h3.m hM, h3.S, h4⟩
/-- yes -/
theorem d138a (hx : XI n K L I J G M c F N tr cd D ch rr) (hr : rr < 600) (hE : ¬ M 71 38 = 0) {EN E A v0 v : Nat} (he1 : x_ex I EN E A v0) (he2 : x_ah I EN E A v0) (he3 : m_ex M EN E A) (he4 : x_eq I M EN E A) (hb : ¬ I 34 0 = 0) (hv : m_qu M EN E A = some v) (hA : A < 60) : z_Ctr l 6 138 [.ref 5] (n, K, L, I, J, G) 0 0 (x_pq n I J (fun M' => mGd (fun k => k = 42) (fun q => q = 91 ∨ q = 92) M M' ∧ M' 71 42 = nI (A + 1) ∧ (∀ k, M' 91 k = if k = A then mS EN v else M 91 k) ∧ ∀ k, M' 92 k = if k = A then m_clo (M 90) (mS EN v) (nI (2 ^ EN) - 1) E else M 92 k) c F N tr (rr + 1) (x_u L D) (.int (nI (A + 1)))) := by
  have hS : SS K L G := hx.S
  have hEN : EN ≤ 12 := he1.2.2.1
  have hqu : x_qu I EN E A = some v := by rw [he4.qu hEN]; exact hv
  have hvlt : v < 2 ^ EN := by have := (m_fq_some hqu); omega
  have hSin := mS_in (N := EN) (v := v) (by omega)
  obtain ⟨cl1, cl2⟩ := he4.cl hEN hSin
  rw [← nI_mS (by omega) hvlt] at cl2
  refine z_ctr (by decide) (by decide +kernel) (Nat.le_of_ble_eq_true rfl) (by decide +kernel) (fun X hl hj hd hm hs hsc hQ => ?_)
  show zV X 0 [some (.ref 5)] [] _ 0 0
  subst hl
  refine zW_ok hj B138_0 0 _ _ _ _ _ b138_0 ?_
  simp only [B138_0, zW, z_wp1, z_ld, z_f0, z_f1, z_f2, z_f3, List.getElem?_cons_zero, List.getElem?_cons_succ, true_and, and_true, Int32.reduceOfInt, z_i10, z_i01, Int32.reduceLT, Int32.reduceLE, Int32.reduceAdd, Int32.reduceSub, z_set, z_set2, z_kil, List.set_cons_zero, List.set_cons_succ, List.take_succ_cons, List.take_zero, List.drop_succ_cons, List.drop_zero, List.reverse_cons, List.reverse_nil, List.nil_append, List.cons_append, List.getD_cons_succ, List.getD_cons_zero, List.getD_nil, List.length_cons, List.length_nil, List.map_cons, List.map_nil, List.sum_cons, List.sum_nil, Nat.reduceAdd, Nat.reduceLeDiff, Value.category, Option.toList, true_or, or_true, z_ua, ↓reduceIte, Nat.reduceEqDiff, eq_self, not_true_eq_false, not_false_eq_true, false_implies, true_implies, Classical.not_not, Nat.le_refl, Nat.zero_le, sK5 hS, sG5_3 hS, sK34 hS]
  try dsimp only
  refine z_callQ (c14y (n := n) (J := J) hS hb he1 he2 hqu hA) (by omega) (by omega) (by omega) (Nat.le_of_ble_eq_true rfl) ?_
  rintro r h' ⟨rfl, I', rfl, eo, x1, x2⟩
  generalize hI2 : z_u (z_u (z_u I' 36 A (nI v)) 37 A (x_ecl I EN E (nI v))) 34 7 (nI (A + 1)) = I2
  have o2 : ∀ q, ¬ (34 ≤ q ∧ q ≤ 37) → I2 q = I q := fun q hq => by rw [← hI2, z_u_ne (by omega), z_u_ne (by omega), z_u_ne (by omega)]; exact eo.1 q (by omega)
  have a7 : I2 34 7 = nI (A + 1) := by rw [← hI2, z_u_at, if_pos rfl]
  have f34 : ∀ k, k ≠ 7 → I2 34 k = I' 34 k := fun k hk => by rw [← hI2, z_u_at, if_neg hk, z_u_ne (by decide), z_u_ne (by decide)]
  have e35 : I2 35 = I 35 := by rw [← hI2, z_u_ne (by decide), z_u_ne (by decide), z_u_ne (by decide)]; exact eo.1 35 (by decide)
  have e36 : ∀ k, I2 36 k = if k = A then nI v else I 36 k := fun k => by rw [← hI2, z_u_ne (by decide), z_u_ne (by decide), z_u_at, eo.1 36 (by decide)]
  have e37 : ∀ k, I2 37 k = if k = A then x_ecl I EN E (nI v) else I 37 k := fun k => by rw [← hI2, z_u_ne (by decide), z_u_at, z_u_ne (by decide), eo.1 37 (by decide)]
  simp only [zW, z_wp1, z_ld, z_f0, z_f1, z_f2, z_f3, List.getElem?_cons_zero, List.getElem?_cons_succ, true_and, and_true, Int32.reduceOfInt, z_i10, z_i01, Int32.reduceLT, Int32.reduceLE, Int32.reduceAdd, Int32.reduceSub, z_set, z_set2, z_kil, List.set_cons_zero, List.set_cons_succ, List.take_succ_cons, List.take_zero, List.drop_succ_cons, List.drop_zero, List.reverse_cons, List.reverse_nil, List.nil_append, List.cons_append, List.getD_cons_succ, List.getD_cons_zero, List.getD_nil, List.length_cons, List.length_nil, List.map_cons, List.map_nil, List.sum_cons, List.sum_nil, Nat.reduceAdd, Nat.reduceLeDiff, Value.category, Option.toList, true_or, or_true, z_ua, ↓reduceIte, Nat.reduceEqDiff, eq_self, not_true_eq_false, not_false_eq_true, false_implies, true_implies, Classical.not_not, Nat.le_refl, Nat.zero_le, sK5 hS, sG5_3 hS, sK34 hS, sK34 hS, a7]
  try dsimp only
  refine zW_ok hj B138_21 21 _ _ _ _ _ b138_21 ?_
  simp only [B138_21, zW, z_wp1, z_ld, z_f0, z_f1, z_f2, z_f3, List.getElem?_cons_zero, List.getElem?_cons_succ, true_and, and_true, Int32.reduceOfInt, z_i10, z_i01, Int32.reduceLT, Int32.reduceLE, Int32.reduceAdd, Int32.reduceSub, z_set, z_set2, z_kil, List.set_cons_zero, List.set_cons_succ, List.take_succ_cons, List.take_zero, List.drop_succ_cons, List.drop_zero, List.reverse_cons, List.reverse_nil, List.nil_append, List.cons_append, List.getD_cons_succ, List.getD_cons_zero, List.getD_nil, List.length_cons, List.length_nil, List.map_cons, List.map_nil, List.sum_cons, List.sum_nil, Nat.reduceAdd, Nat.reduceLeDiff, Value.category, Option.toList, true_or, or_true, z_ua, ↓reduceIte, Nat.reduceEqDiff, eq_self, not_true_eq_false, not_false_eq_true, false_implies, true_implies, Classical.not_not, Nat.le_refl, Nat.zero_le]
  try dsimp only
  refine hQ _ _ ⟨rfl, n, K, L, I2, J, G, cd, D, ch, rfl, fun M' hP => ?_, hS, Nat.le_refl _, fun q a b => ⟨o2 q (by omega), rfl⟩, Nat.le_refl _⟩
  obtain ⟨hg, m1, m2, m3⟩ := hP
  refine (hx.up hr).ex o2 ⟨fun q hq => hg.1 q (by omega) (by omega), fun k hk => hg.2 k (by unfold mQ; omega) (by omega)⟩ (Or.inr ⟨by rw [f34 _ (by decide), eo.2 0 (by omega) (by omega)]; exact hb, by rw [hg.2 _ (by unfold mQ; omega) (by decide)]; exact hE, EN, E, A + 1, v, ?_, ?_, ?_, fun e he => ?_, fun k hk => ?_⟩)
  · obtain ⟨y1, y2, y3, y4, y5, y6, y7, y8, y9⟩ := x1
    exact ⟨by rw [f34 _ (by decide)]; exact y1, by rw [f34 _ (by decide)]; exact y2, y3, by rw [f34 _ (by decide)]; exact y4, y5, a7, by omega, by rw [f34 _ (by decide)]; exact y8, y9⟩
  · intro u hu q
    refine x2 u hu ⟨fun k hk q1 => ?_, fun q1 => q.2 ?_⟩
    · have := q.1 k (by omega)
      rw [e36, e37, if_neg (by omega), if_neg (by omega)] at this
      rw [eo.1 36 (by decide)] at q1
      rw [eo.1 37 (by decide)]
      exact this q1
    · show m_clo (I2 35) _ _ _ = _
      rw [e35, ← eo.1 35 (by decide)]
      exact q1
  · obtain ⟨y1, y2, y3, y4, y5, y6⟩ := he3
    exact ⟨by rw [hg.2 _ (by unfold mQ; omega) (by decide)]; exact y1, y2, by rw [hg.2 _ (by unfold mQ; omega) (by decide)]; exact y3, y4, m1, by omega⟩
  · rw [hg.1 90 (by omega) (by omega), e35]
    exact he4.1 e he
  · rw [m2 k, m3 k, e36 k, e37 k]
    by_cases z : k = A
    · rw [if_pos z, if_pos z, if_pos z, if_pos z]
      exact ⟨hSin, cl1, nI_mS (by omega) hvlt, cl2⟩
    · rw [if_neg z, if_neg z, if_neg z, if_neg z]
      exact he4.2 k (by omega)
/-- the search has gone on, and found nothing -/
theorem XI.e0 (hx : XI n K L I J G M c F N tr cd D ch rr) {I' : Nat → Nat → Int32} (eo : x_eo I I') (b0 : I 34 0 = 0) : XI n K L I' J G M c F N tr cd D ch rr := by
  refine hx.ex (fun q hq => eo.1 q (by omega)) (mGe.rf M) ?_
  rcases hx.2.2.2.2.2.2.2.2.1 with ⟨-, b1, A, b2, b3⟩ | ⟨b1, -⟩
  · exact Or.inl ⟨by rw [eo.2 _ (by decide) (by decide)]; exact b0, b1, A, by rw [eo.2 _ (by decide) (by decide)]; exact b2, b3⟩
  · exact absurd b0 b1
theorem XI.e1 (hx : XI n K L I J G M c F N tr cd D ch rr) {I' : Nat → Nat → Int32} (eo : x_eo I I') (b0 : ¬ I 34 0 = 0) (b1 : ¬ M 71 38 = 0) {EN E A v : Nat} (x1 : x_ex I' EN E A v) (x2 : x_ah I' EN E A v) (he3 : m_ex M EN E A) (he4 : x_eq I M EN E A) : XI n K L I' J G M c F N tr cd D ch rr :=
  hx.ex (fun q hq => eo.1 q (by omega)) (mGe.rf M) (Or.inr ⟨by rw [eo.2 _ (by decide) (by decide)]; exact b0, b1, EN, E, A, v, x1, x2, he3, (he4.o eo).1, (he4.o eo).2⟩)
theorem d138b (hx : XI n K L I J G M c F N tr cd D ch rr) (hr : rr < 600) (h : ¬ (¬ M 71 38 = 0 ∧ ∃ EN E A v, m_ex M EN E A ∧ m_qu M EN E A = some v ∧ A < 60)) : z_Ctr l 6 138 [.ref 5] (n, K, L, I, J, G) 0 0 (x_po n I J M c F N tr (rr + 1) (x_u L D) (.int (-1))) := by
  have hS : SS K L G := hx.S
  refine z_ctr (by decide) (by decide +kernel) (Nat.le_of_ble_eq_true rfl) (by decide +kernel) (fun X hl hj hd hm hs hsc hQ => ?_)
  show zV X 0 [some (.ref 5)] [] _ 0 0
  subst hl
  have no : ∀ I', XI n K L I' J G M c F N tr cd D ch rr → (∀ q, 71 ≤ q → q ≤ 102 → I' q = I q) → zV X 20 [some (.ref 5)] [] (n, K, L, I', J, G) 0 0 := by
    intro I' hx' hI
    refine zW_ok hj B138_20 20 _ _ _ _ _ b138_20 ?_
    simp only [B138_20, zW, z_wp1, z_ld, z_f0, z_f1, z_f2, z_f3, List.getElem?_cons_zero, List.getElem?_cons_succ, true_and, and_true, Int32.reduceOfInt, z_i10, z_i01, Int32.reduceLT, Int32.reduceLE, Int32.reduceAdd, Int32.reduceSub, z_set, z_set2, z_kil, List.set_cons_zero, List.set_cons_succ, List.take_succ_cons, List.take_zero, List.drop_succ_cons, List.drop_zero, List.reverse_cons, List.reverse_nil, List.nil_append, List.cons_append, List.getD_cons_succ, List.getD_cons_zero, List.getD_nil, List.length_cons, List.length_nil, List.map_cons, List.map_nil, List.sum_cons, List.sum_nil, Nat.reduceAdd, Nat.reduceLeDiff, Value.category, Option.toList, true_or, or_true, z_ua, ↓reduceIte, Nat.reduceEqDiff, eq_self, not_true_eq_false, not_false_eq_true, false_implies, true_implies, Classical.not_not, Nat.le_refl, Nat.zero_le]
    try dsimp only
    refine zW_ok hj B138_21 21 _ _ _ _ _ b138_21 ?_
    simp only [B138_21, zW, z_wp1, z_ld, z_f0, z_f1, z_f2, z_f3, List.getElem?_cons_zero, List.getElem?_cons_succ, true_and, and_true, Int32.reduceOfInt, z_i10, z_i01, Int32.reduceLT, Int32.reduceLE, Int32.reduceAdd, Int32.reduceSub, z_set, z_set2, z_kil, List.set_cons_zero, List.set_cons_succ, List.take_succ_cons, List.take_zero, List.drop_succ_cons, List.drop_zero, List.reverse_cons, List.reverse_nil, List.nil_append, List.cons_append, List.getD_cons_succ, List.getD_cons_zero, List.getD_nil, List.length_cons, List.length_nil, List.map_cons, List.map_nil, List.sum_cons, List.sum_nil, Nat.reduceAdd, Nat.reduceLeDiff, Value.category, Option.toList, true_or, or_true, z_ua, ↓reduceIte, Nat.reduceEqDiff, eq_self, not_true_eq_false, not_false_eq_true, false_implies, true_implies, Classical.not_not, Nat.le_refl, Nat.zero_le]
    try dsimp only
    exact hQ _ _ (x_po.same hx hr hx' hI _)
  refine zW_ok hj B138_0 0 _ _ _ _ _ b138_0 ?_
  simp only [B138_0, zW, z_wp1, z_ld, z_f0, z_f1, z_f2, z_f3, List.getElem?_cons_zero, List.getElem?_cons_succ, true_and, and_true, Int32.reduceOfInt, z_i10, z_i01, Int32.reduceLT, Int32.reduceLE, Int32.reduceAdd, Int32.reduceSub, z_set, z_set2, z_kil, List.set_cons_zero, List.set_cons_succ, List.take_succ_cons, List.take_zero, List.drop_succ_cons, List.drop_zero, List.reverse_cons, List.reverse_nil, List.nil_append, List.cons_append, List.getD_cons_succ, List.getD_cons_zero, List.getD_nil, List.length_cons, List.length_nil, List.map_cons, List.map_nil, List.sum_cons, List.sum_nil, Nat.reduceAdd, Nat.reduceLeDiff, Value.category, Option.toList, true_or, or_true, z_ua, ↓reduceIte, Nat.reduceEqDiff, eq_self, not_true_eq_false, not_false_eq_true, false_implies, true_implies, Classical.not_not, Nat.le_refl, Nat.zero_le, sK5 hS, sG5_3 hS, sK34 hS]
  try dsimp only
  rcases hx.2.2.2.2.2.2.2.2.1 with ⟨b0, b1, A, b2⟩ | ⟨b0, b1, EN, E, A, v0, he1, he2, he3, he4⟩
  · refine z_callQ (c14n (n := n) (J := J) (EN := 0) (E := 0) (A := 0) (v0 := 0) hS (fun q => absurd b0 q) ⟨A, b2⟩ (fun q => q.1 b0)) (by omega) (by omega) (by omega) (Nat.le_of_ble_eq_true rfl) ?_
    rintro r h' ⟨rfl, I', rfl, eo, -⟩
    simp only [zW, z_wp1, z_ld, z_f0, z_f1, z_f2, z_f3, List.getElem?_cons_zero, List.getElem?_cons_succ, true_and, and_true, Int32.reduceOfInt, z_i10, z_i01, Int32.reduceLT, Int32.reduceLE, Int32.reduceAdd, Int32.reduceSub, z_set, z_set2, z_kil, List.set_cons_zero, List.set_cons_succ, List.take_succ_cons, List.take_zero, List.drop_succ_cons, List.drop_zero, List.reverse_cons, List.reverse_nil, List.nil_append, List.cons_append, List.getD_cons_succ, List.getD_cons_zero, List.getD_nil, List.length_cons, List.length_nil, List.map_cons, List.map_nil, List.sum_cons, List.sum_nil, Nat.reduceAdd, Nat.reduceLeDiff, Value.category, Option.toList, true_or, or_true, z_ua, ↓reduceIte, Nat.reduceEqDiff, eq_self, not_true_eq_false, not_false_eq_true, false_implies, true_implies, Classical.not_not, Nat.le_refl, Nat.zero_le]
    try dsimp only
    exact no I' (hx.e0 eo b0) (fun q a _ => eo.1 q (by omega))
  · have hEN : EN ≤ 12 := he1.2.2.1
    have he4' : x_eq I M EN E A := he4
    refine z_callQ (c14n (n := n) (J := J) hS (fun _ => ⟨he1, he2⟩) ⟨A, he1.2.2.2.2.2.1, he1.2.2.2.2.2.2.1⟩ (fun q => ?_)) (by omega) (by omega) (by omega) (Nat.le_of_ble_eq_true rfl) ?_
    · obtain ⟨-, ⟨v, q1⟩, q2⟩ := q
      rw [he4'.qu hEN] at q1
      exact h ⟨b1, EN, E, A, v, he3, q1, q2⟩
    rintro r h' ⟨rfl, I', rfl, eo, q⟩
    obtain ⟨v, x1, x2⟩ := q b0
    simp only [zW, z_wp1, z_ld, z_f0, z_f1, z_f2, z_f3, List.getElem?_cons_zero, List.getElem?_cons_succ, true_and, and_true, Int32.reduceOfInt, z_i10, z_i01, Int32.reduceLT, Int32.reduceLE, Int32.reduceAdd, Int32.reduceSub, z_set, z_set2, z_kil, List.set_cons_zero, List.set_cons_succ, List.take_succ_cons, List.take_zero, List.drop_succ_cons, List.drop_zero, List.reverse_cons, List.reverse_nil, List.nil_append, List.cons_append, List.getD_cons_succ, List.getD_cons_zero, List.getD_nil, List.length_cons, List.length_nil, List.map_cons, List.map_nil, List.sum_cons, List.sum_nil, Nat.reduceAdd, Nat.reduceLeDiff, Value.category, Option.toList, true_or, or_true, z_ua, ↓reduceIte, Nat.reduceEqDiff, eq_self, not_true_eq_false, not_false_eq_true, false_implies, true_implies, Classical.not_not, Nat.le_refl, Nat.zero_le]
    try dsimp only
    exact no I' (hx.e1 eo b0 b1 x1 x2 he3 he4') (fun q a _ => eo.1 q (by omega))
/-- no -/
theorem x_eq.no {EN E A v : Nat} (h : x_eq I M EN E A) (hN : EN ≤ 12) (hv : v < 2 ^ EN) (s : Int32) (hb : b_in EN s) : x_no I EN E A v s ↔ (s &&& mS EN v = mS EN v ∧ ¬ s &&& m_clo (M 90) (mS EN v) (nI (2 ^ EN) - 1) E = m_clo (M 90) (mS EN v) (nI (2 ^ EN) - 1) E ∧ m_keeps (M 91) (M 92) s A) := by
  have hSin := mS_in (N := EN) (v := v) (by omega)
  obtain ⟨cl1, cl2⟩ := h.cl hN hSin
  rw [← nI_mS (by omega) hv] at cl2
  unfold x_no
  rw [h.kp hN hb, cl2, b_sub (by omega) cl1 hb, nI_mS (by omega) hv, b_sub (by omega) hSin hb, Int32.and_comm s, Int32.and_comm s]
theorem d139a (hx : XI n K L I J G M c F N tr cd D ch rr) (hr : rr < 600) (hE : ¬ M 71 38 = 0) {EN E A v0 v : Nat} (he1 : x_ex I EN E A v0) (he2 : x_ah I EN E A v0) (he3 : m_ex M EN E A) (he4 : x_eq I M EN E A) (hb : ¬ I 34 0 = 0) (hv : m_qu M EN E A = some v) {s : Int32} (hn : m_no M EN E A v s) : z_Ctr l 6 139 [.ref 5, .int s] (n, K, L, I, J, G) 0 0 (x_pq n I J (fun M' => mGd (fun k => k = 40) (fun q => q = 90) M M' ∧ M' 71 40 = nI (E + 1) ∧ ∀ k, M' 90 k = if k = E then s else M 90 k) c F N tr (rr + 1) (x_u L D) (.int (nI (E + 1)))) := by
  have hS : SS K L G := hx.S
  have hEN : EN ≤ 12 := he1.2.2.1
  have h12 : 2 ^ EN ≤ 2 ^ 12 := Nat.pow_le_pow_right (by omega) hEN
  have hqu : x_qu I EN E A = some v := by rw [he4.qu hEN]; exact hv
  have hvlt : v < 2 ^ EN := by have := (m_fq_some hqu); omega
  obtain ⟨o1, o2, o3, o4⟩ := hn
  have hbs : b_in EN s := by
    obtain ⟨k, hk, rfl⟩ := z_of (by omega) ⟨o2, o3⟩
    exact fun i hi => zb_of (by omega) hk hi
  have hno := (he4.no hEN hvlt s hbs).mpr o4
  refine z_ctr (by decide) (by decide +kernel) (Nat.le_of_ble_eq_true rfl) (by decide +kernel) (fun X hl hj hd hm hs hsc hQ => ?_)
  show zV X 0 [some (.ref 5), some (.int s)] [] _ 0 0
  subst hl
  refine zW_ok hj B139_0 0 _ _ _ _ _ b139_0 ?_
  simp only [B139_0, zW, z_wp1, z_ld, z_f0, z_f1, z_f2, z_f3, List.getElem?_cons_zero, List.getElem?_cons_succ, true_and, and_true, Int32.reduceOfInt, z_i10, z_i01, Int32.reduceLT, Int32.reduceLE, Int32.reduceAdd, Int32.reduceSub, z_set, z_set2, z_kil, List.set_cons_zero, List.set_cons_succ, List.take_succ_cons, List.take_zero, List.drop_succ_cons, List.drop_zero, List.reverse_cons, List.reverse_nil, List.nil_append, List.cons_append, List.getD_cons_succ, List.getD_cons_zero, List.getD_nil, List.length_cons, List.length_nil, List.map_cons, List.map_nil, List.sum_cons, List.sum_nil, Nat.reduceAdd, Nat.reduceLeDiff, Value.category, Option.toList, true_or, or_true, z_ua, ↓reduceIte, Nat.reduceEqDiff, eq_self, not_true_eq_false, not_false_eq_true, false_implies, true_implies, Classical.not_not, Nat.le_refl, Nat.zero_le, sK5 hS, sG5_3 hS, sK34 hS]
  try dsimp only
  refine z_callQ (c15y (n := n) (J := J) hS hb he1 he2 hqu o1 o2 o3 hno) (by omega) (by omega) (by omega) (Nat.le_of_ble_eq_true rfl) ?_
  rintro r h' ⟨rfl, I', rfl, eo, x1, x2⟩
  generalize hI2 : z_u (z_u I' 35 E (x_bw s EN)) 34 4 (nI (E + 1)) = I2
  have o2 : ∀ q, ¬ (34 ≤ q ∧ q ≤ 37) → I2 q = I q := fun q hq => by rw [← hI2, z_u_ne (by omega), z_u_ne (by omega)]; exact eo.1 q (by omega)
  have a7 : I2 34 4 = nI (E + 1) := by rw [← hI2, z_u_at, if_pos rfl]
  have f34 : ∀ k, k ≠ 4 → I2 34 k = I' 34 k := fun k hk => by rw [← hI2, z_u_at, if_neg hk, z_u_ne (by decide)]
  have e36 : I2 36 = I 36 := by rw [← hI2, z_u_ne (by decide), z_u_ne (by decide)]; exact eo.1 36 (by decide)
  have e37 : I2 37 = I 37 := by rw [← hI2, z_u_ne (by decide), z_u_ne (by decide)]; exact eo.1 37 (by decide)
  have e35 : ∀ k, I2 35 k = if k = E then x_bw s EN else I 35 k := fun k => by rw [← hI2, z_u_ne (by decide), z_u_at, eo.1 35 (by decide)]
  simp only [zW, z_wp1, z_ld, z_f0, z_f1, z_f2, z_f3, List.getElem?_cons_zero, List.getElem?_cons_succ, true_and, and_true, Int32.reduceOfInt, z_i10, z_i01, Int32.reduceLT, Int32.reduceLE, Int32.reduceAdd, Int32.reduceSub, z_set, z_set2, z_kil, List.set_cons_zero, List.set_cons_succ, List.take_succ_cons, List.take_zero, List.drop_succ_cons, List.drop_zero, List.reverse_cons, List.reverse_nil, List.nil_append, List.cons_append, List.getD_cons_succ, List.getD_cons_zero, List.getD_nil, List.length_cons, List.length_nil, List.map_cons, List.map_nil, List.sum_cons, List.sum_nil, Nat.reduceAdd, Nat.reduceLeDiff, Value.category, Option.toList, true_or, or_true, z_ua, ↓reduceIte, Nat.reduceEqDiff, eq_self, not_true_eq_false, not_false_eq_true, false_implies, true_implies, Classical.not_not, Nat.le_refl, Nat.zero_le, sK5 hS, sG5_3 hS, sK34 hS, sK34 hS, a7]
  try dsimp only
  refine zW_ok hj B139_22 22 _ _ _ _ _ b139_22 ?_
  simp only [B139_22, zW, z_wp1, z_ld, z_f0, z_f1, z_f2, z_f3, List.getElem?_cons_zero, List.getElem?_cons_succ, true_and, and_true, Int32.reduceOfInt, z_i10, z_i01, Int32.reduceLT, Int32.reduceLE, Int32.reduceAdd, Int32.reduceSub, z_set, z_set2, z_kil, List.set_cons_zero, List.set_cons_succ, List.take_succ_cons, List.take_zero, List.drop_succ_cons, List.drop_zero, List.reverse_cons, List.reverse_nil, List.nil_append, List.cons_append, List.getD_cons_succ, List.getD_cons_zero, List.getD_nil, List.length_cons, List.length_nil, List.map_cons, List.map_nil, List.sum_cons, List.sum_nil, Nat.reduceAdd, Nat.reduceLeDiff, Value.category, Option.toList, true_or, or_true, z_ua, ↓reduceIte, Nat.reduceEqDiff, eq_self, not_true_eq_false, not_false_eq_true, false_implies, true_implies, Classical.not_not, Nat.le_refl, Nat.zero_le]
  try dsimp only
  refine hQ _ _ ⟨rfl, n, K, L, I2, J, G, cd, D, ch, rfl, fun M' hP => ?_, hS, Nat.le_refl _, fun q a b => ⟨o2 q (by omega), rfl⟩, Nat.le_refl _⟩
  obtain ⟨hg, m1, m2⟩ := hP
  refine (hx.up hr).ex o2 ⟨fun q hq => hg.1 q (by omega) (by omega), fun k hk => hg.2 k (by unfold mQ; omega) (by omega)⟩ (Or.inr ⟨by rw [f34 _ (by decide), eo.2 0 (by omega) (by omega)]; exact hb, by rw [hg.2 _ (by unfold mQ; omega) (by decide)]; exact hE, EN, E + 1, A, v, ?_, ?_, ?_, fun e he => ?_, fun k hk => ?_⟩)
  · obtain ⟨y1, y2, y3, y4, y5, y6, y7, y8, y9⟩ := x1
    exact ⟨by rw [f34 _ (by decide)]; exact y1, by rw [f34 _ (by decide)]; exact y2, y3, a7, by omega, by rw [f34 _ (by decide)]; exact y6, y7, by rw [f34 _ (by decide)]; exact y8, y9⟩
  · intro u hu q
    refine x2 u hu ⟨fun k hk q1 => ?_, fun q1 => q.2 ?_⟩
    · have := q.1 k hk
      rw [e36, e37] at this
      rw [eo.1 36 (by decide)] at q1
      rw [eo.1 37 (by decide)]
      exact this q1
    · refine m_clo_stay ?_ 1
      rw [m_clo_congr (r' := I' 35) (fun g hg => by rw [e35, if_neg (by omega), eo.1 35 (by decide)])]
      exact q1
  · obtain ⟨y1, y2, y3, y4, y5, y6⟩ := he3
    exact ⟨by rw [hg.2 _ (by unfold mQ; omega) (by decide)]; exact y1, y2, m1, by omega, by rw [hg.2 _ (by unfold mQ; omega) (by decide)]; exact y5, y6⟩
  · rw [m2 e, e35 e]
    by_cases z : e = E
    · rw [if_pos z, if_pos z]
      exact ⟨hbs, rfl⟩
    · rw [if_neg z, if_neg z]
      exact he4.1 e (by omega)
  · rw [hg.1 91 (by omega) (by omega), hg.1 92 (by omega) (by omega), e36, e37]
    exact he4.2 k hk
theorem d139b (hx : XI n K L I J G M c F N tr cd D ch rr) (hr : rr < 600) {s : Int32} (h : ¬ (¬ M 71 38 = 0 ∧ ∃ EN E A v, m_ex M EN E A ∧ m_qu M EN E A = some v ∧ m_no M EN E A v s)) : z_Ctr l 6 139 [.ref 5, .int s] (n, K, L, I, J, G) 0 0 (x_po n I J M c F N tr (rr + 1) (x_u L D) (.int (-1))) := by
  have hS : SS K L G := hx.S
  refine z_ctr (by decide) (by decide +kernel) (Nat.le_of_ble_eq_true rfl) (by decide +kernel) (fun X hl hj hd hm hs hsc hQ => ?_)
  show zV X 0 [some (.ref 5), some (.int s)] [] _ 0 0
  subst hl
  have no : ∀ I', XI n K L I' J G M c F N tr cd D ch rr → (∀ q, 71 ≤ q → q ≤ 102 → I' q = I q) → zV X 21 [some (.ref 5), some (.int s)] [] (n, K, L, I', J, G) 0 0 := by
    intro I' hx' hI
    refine zW_ok hj B139_21 21 _ _ _ _ _ b139_21 ?_
    simp only [B139_21, zW, z_wp1, z_ld, z_f0, z_f1, z_f2, z_f3, List.getElem?_cons_zero, List.getElem?_cons_succ, true_and, and_true, Int32.reduceOfInt, z_i10, z_i01, Int32.reduceLT, Int32.reduceLE, Int32.reduceAdd, Int32.reduceSub, z_set, z_set2, z_kil, List.set_cons_zero, List.set_cons_succ, List.take_succ_cons, List.take_zero, List.drop_succ_cons, List.drop_zero, List.reverse_cons, List.reverse_nil, List.nil_append, List.cons_append, List.getD_cons_succ, List.getD_cons_zero, List.getD_nil, List.length_cons, List.length_nil, List.map_cons, List.map_nil, List.sum_cons, List.sum_nil, Nat.reduceAdd, Nat.reduceLeDiff, Value.category, Option.toList, true_or, or_true, z_ua, ↓reduceIte, Nat.reduceEqDiff, eq_self, not_true_eq_false, not_false_eq_true, false_implies, true_implies, Classical.not_not, Nat.le_refl, Nat.zero_le]
    try dsimp only
    refine zW_ok hj B139_22 22 _ _ _ _ _ b139_22 ?_
    simp only [B139_22, zW, z_wp1, z_ld, z_f0, z_f1, z_f2, z_f3, List.getElem?_cons_zero, List.getElem?_cons_succ, true_and, and_true, Int32.reduceOfInt, z_i10, z_i01, Int32.reduceLT, Int32.reduceLE, Int32.reduceAdd, Int32.reduceSub, z_set, z_set2, z_kil, List.set_cons_zero, List.set_cons_succ, List.take_succ_cons, List.take_zero, List.drop_succ_cons, List.drop_zero, List.reverse_cons, List.reverse_nil, List.nil_append, List.cons_append, List.getD_cons_succ, List.getD_cons_zero, List.getD_nil, List.length_cons, List.length_nil, List.map_cons, List.map_nil, List.sum_cons, List.sum_nil, Nat.reduceAdd, Nat.reduceLeDiff, Value.category, Option.toList, true_or, or_true, z_ua, ↓reduceIte, Nat.reduceEqDiff, eq_self, not_true_eq_false, not_false_eq_true, false_implies, true_implies, Classical.not_not, Nat.le_refl, Nat.zero_le]
    try dsimp only
    exact hQ _ _ (x_po.same hx hr hx' hI _)
  refine zW_ok hj B139_0 0 _ _ _ _ _ b139_0 ?_
  simp only [B139_0, zW, z_wp1, z_ld, z_f0, z_f1, z_f2, z_f3, List.getElem?_cons_zero, List.getElem?_cons_succ, true_and, and_true, Int32.reduceOfInt, z_i10, z_i01, Int32.reduceLT, Int32.reduceLE, Int32.reduceAdd, Int32.reduceSub, z_set, z_set2, z_kil, List.set_cons_zero, List.set_cons_succ, List.take_succ_cons, List.take_zero, List.drop_succ_cons, List.drop_zero, List.reverse_cons, List.reverse_nil, List.nil_append, List.cons_append, List.getD_cons_succ, List.getD_cons_zero, List.getD_nil, List.length_cons, List.length_nil, List.map_cons, List.map_nil, List.sum_cons, List.sum_nil, Nat.reduceAdd, Nat.reduceLeDiff, Value.category, Option.toList, true_or, or_true, z_ua, ↓reduceIte, Nat.reduceEqDiff, eq_self, not_true_eq_false, not_false_eq_true, false_implies, true_implies, Classical.not_not, Nat.le_refl, Nat.zero_le, sK5 hS, sG5_3 hS, sK34 hS]
  try dsimp only
  rcases hx.2.2.2.2.2.2.2.2.1 with ⟨b0, b1, A, b2⟩ | ⟨b0, b1, EN, E, A, v0, he1, he2, he3, he4⟩
  · refine z_callQ (c15n (n := n) (J := J) (EN := 0) (E := 0) (A := 0) (v0 := 0) hS (fun q => absurd b0 q) (fun q => q.1 b0)) (by omega) (by omega) (by omega) (Nat.le_of_ble_eq_true rfl) ?_
    rintro r h' ⟨rfl, I', rfl, eo, -⟩
    simp only [zW, z_wp1, z_ld, z_f0, z_f1, z_f2, z_f3, List.getElem?_cons_zero, List.getElem?_cons_succ, true_and, and_true, Int32.reduceOfInt, z_i10, z_i01, Int32.reduceLT, Int32.reduceLE, Int32.reduceAdd, Int32.reduceSub, z_set, z_set2, z_kil, List.set_cons_zero, List.set_cons_succ, List.take_succ_cons, List.take_zero, List.drop_succ_cons, List.drop_zero, List.reverse_cons, List.reverse_nil, List.nil_append, List.cons_append, List.getD_cons_succ, List.getD_cons_zero, List.getD_nil, List.length_cons, List.length_nil, List.map_cons, List.map_nil, List.sum_cons, List.sum_nil, Nat.reduceAdd, Nat.reduceLeDiff, Value.category, Option.toList, true_or, or_true, z_ua, ↓reduceIte, Nat.reduceEqDiff, eq_self, not_true_eq_false, not_false_eq_true, false_implies, true_implies, Classical.not_not, Nat.le_refl, Nat.zero_le]
    try dsimp only
    exact no I' (hx.e0 eo b0) (fun q a _ => eo.1 q (by omega))
  · have hEN : EN ≤ 12 := he1.2.2.1
    have h12 : 2 ^ EN ≤ 2 ^ 12 := Nat.pow_le_pow_right (by omega) hEN
    have he4' : x_eq I M EN E A := he4
    refine z_callQ (c15n (n := n) (J := J) hS (fun _ => ⟨he1, he2⟩) (fun q => ?_)) (by omega) (by omega) (by omega) (Nat.le_of_ble_eq_true rfl) ?_
    · obtain ⟨-, v, q1, o1, o2, o3, q2⟩ := q
      have hvlt : v < 2 ^ EN := by have := (m_fq_some q1); omega
      rw [he4'.qu hEN] at q1
      have hbs : b_in EN s := by
        obtain ⟨k, hk, rfl⟩ := z_of (by omega) ⟨o2, o3⟩
        exact fun i hi => zb_of (by omega) hk hi
      exact h ⟨b1, EN, E, A, v, he3, q1, o1, o2, o3, (he4'.no hEN hvlt s hbs).mp q2⟩
    rintro r h' ⟨rfl, I', rfl, eo, q⟩
    obtain ⟨v, x1, x2⟩ := q b0
    simp only [zW, z_wp1, z_ld, z_f0, z_f1, z_f2, z_f3, List.getElem?_cons_zero, List.getElem?_cons_succ, true_and, and_true, Int32.reduceOfInt, z_i10, z_i01, Int32.reduceLT, Int32.reduceLE, Int32.reduceAdd, Int32.reduceSub, z_set, z_set2, z_kil, List.set_cons_zero, List.set_cons_succ, List.take_succ_cons, List.take_zero, List.drop_succ_cons, List.drop_zero, List.reverse_cons, List.reverse_nil, List.nil_append, List.cons_append, List.getD_cons_succ, List.getD_cons_zero, List.getD_nil, List.length_cons, List.length_nil, List.map_cons, List.map_nil, List.sum_cons, List.sum_nil, Nat.reduceAdd, Nat.reduceLeDiff, Value.category, Option.toList, true_or, or_true, z_ua, ↓reduceIte, Nat.reduceEqDiff, eq_self, not_true_eq_false, not_false_eq_true, false_implies, true_implies, Classical.not_not, Nat.le_refl, Nat.zero_le]
    try dsimp only
    exact no I' (hx.e1 eo b0 b1 x1 x2 he3 he4') (fun q a _ => eo.1 q (by omega))
/-- accepted -/
theorem d140a (hx : XI n K L I J G M c F N tr cd D ch rr) (hr : rr < 600) {EN E A v0 k : Nat} (he1 : x_ex I EN E A v0) (he4 : x_eq I M EN E A) (hb : ¬ I 34 0 = 0) (hk : k < A) {w : Int32} (hw : 0 ≤ w ∧ w ≤ 1) : z_Ctr l 6 140 [.ref 5, .int (nI k), .int w] (n, K, L, I, J, G) 0 0 (x_po n I J M c F N tr (rr + 1) (x_u L D) (.int (if w = 0 then M 91 k else M 92 k))) := by
  have hS : SS K L G := hx.S
  have hEN : EN ≤ 12 := he1.2.2.1
  have e : x_bw (if w = 0 then I 36 k else I 37 k) EN = if w = 0 then M 91 k else M 92 k := by
    obtain ⟨a, b, c, d⟩ := he4.2 k hk
    split
    · rw [c, b_inv (by omega) a]
    · rw [d, b_inv (by omega) b]
  refine z_ctr (by decide) (by decide +kernel) (Nat.le_of_ble_eq_true rfl) (by decide +kernel) (fun X hl hj hd hm hs hsc hQ => ?_)
  show zV X 0 [some (.ref 5), some (.int (nI k)), some (.int w)] [] _ 0 0
  refine zW_ok hj B140_0 0 _ _ _ _ _ b140_0 ?_
  simp only [B140_0, zW, z_wp1, z_ld, z_f0, z_f1, z_f2, z_f3, List.getElem?_cons_zero, List.getElem?_cons_succ, true_and, and_true, Int32.reduceOfInt, z_i10, z_i01, Int32.reduceLT, Int32.reduceLE, Int32.reduceAdd, Int32.reduceSub, z_set, z_set2, z_kil, List.set_cons_zero, List.set_cons_succ, List.take_succ_cons, List.take_zero, List.drop_succ_cons, List.drop_zero, List.reverse_cons, List.reverse_nil, List.nil_append, List.cons_append, List.getD_cons_succ, List.getD_cons_zero, List.getD_nil, List.length_cons, List.length_nil, List.map_cons, List.map_nil, List.sum_cons, List.sum_nil, Nat.reduceAdd, Nat.reduceLeDiff, Value.category, Option.toList, true_or, or_true, z_ua, ↓reduceIte, Nat.reduceEqDiff, eq_self, not_true_eq_false, not_false_eq_true, false_implies, true_implies, Classical.not_not, Nat.le_refl, Nat.zero_le, sK5 hS, sG5_3 hS, sK34 hS]
  try dsimp only
  refine z_callD (c16y (n := n) (I := I) (J := J) hS hb he1 hk hw) (by omega) (by omega) (by omega) (Nat.le_of_ble_eq_true rfl) ?_
  try simp only [zW, z_wp1, z_ld, z_f0, z_f1, z_f2, z_f3, List.getElem?_cons_zero, List.getElem?_cons_succ, true_and, and_true, Int32.reduceOfInt, z_i10, z_i01, Int32.reduceLT, Int32.reduceLE, Int32.reduceAdd, Int32.reduceSub, z_set, z_set2, z_kil, List.set_cons_zero, List.set_cons_succ, List.take_succ_cons, List.take_zero, List.drop_succ_cons, List.drop_zero, List.reverse_cons, List.reverse_nil, List.nil_append, List.cons_append, List.getD_cons_succ, List.getD_cons_zero, List.getD_nil, List.length_cons, List.length_nil, List.map_cons, List.map_nil, List.sum_cons, List.sum_nil, Nat.reduceAdd, Nat.reduceLeDiff, Value.category, Option.toList, true_or, or_true, z_ua, ↓reduceIte, Nat.reduceEqDiff, eq_self, not_true_eq_false, not_false_eq_true, false_implies, true_implies, Classical.not_not, Nat.le_refl, Nat.zero_le]
  try dsimp only
  rw [e]
  exact hQ _ _ (x_po.id hx hr _)
theorem d140b (hx : XI n K L I J G M c F N tr cd D ch rr) (hr : rr < 600) {k w : Int32} (h : ¬ (¬ M 71 38 = 0 ∧ (∃ EN E A, m_ex M EN E A ∧ 0 ≤ k ∧ k < nI A) ∧ (0 ≤ w ∧ w ≤ 1))) : z_Ctr l 6 140 [.ref 5, .int k, .int w] (n, K, L, I, J, G) 0 0 (x_po n I J M c F N tr (rr + 1) (x_u L D) (.int (-1))) := by
  have hS : SS K L G := hx.S
  refine z_ctr (by decide) (by decide +kernel) (Nat.le_of_ble_eq_true rfl) (by decide +kernel) (fun X hl hj hd hm hs hsc hQ => ?_)
  show zV X 0 [some (.ref 5), some (.int k), some (.int w)] [] _ 0 0
  refine zW_ok hj B140_0 0 _ _ _ _ _ b140_0 ?_
  simp only [B140_0, zW, z_wp1, z_ld, z_f0, z_f1, z_f2, z_f3, List.getElem?_cons_zero, List.getElem?_cons_succ, true_and, and_true, Int32.reduceOfInt, z_i10, z_i01, Int32.reduceLT, Int32.reduceLE, Int32.reduceAdd, Int32.reduceSub, z_set, z_set2, z_kil, List.set_cons_zero, List.set_cons_succ, List.take_succ_cons, List.take_zero, List.drop_succ_cons, List.drop_zero, List.reverse_cons, List.reverse_nil, List.nil_append, List.cons_append, List.getD_cons_succ, List.getD_cons_zero, List.getD_nil, List.length_cons, List.length_nil, List.map_cons, List.map_nil, List.sum_cons, List.sum_nil, Nat.reduceAdd, Nat.reduceLeDiff, Value.category, Option.toList, true_or, or_true, z_ua, ↓reduceIte, Nat.reduceEqDiff, eq_self, not_true_eq_false, not_false_eq_true, false_implies, true_implies, Classical.not_not, Nat.le_refl, Nat.zero_le, sK5 hS, sG5_3 hS, sK34 hS]
  try dsimp only
  rcases hx.2.2.2.2.2.2.2.2.1 with ⟨b0, b1, A, b2⟩ | ⟨b0, b1, EN, E, A, v0, he1, he2, he3, he4⟩
  · refine z_callD (c16n (n := n) (I := I) (J := J) (EN := 0) (E := 0) (A := 0) (v0 := 0) (k := k) (w := w) hS (fun q => absurd b0 q) (fun q => q.1 b0)) (by omega) (by omega) (by omega) (Nat.le_of_ble_eq_true rfl) ?_
    try simp only [zW, z_wp1, z_ld, z_f0, z_f1, z_f2, z_f3, List.getElem?_cons_zero, List.getElem?_cons_succ, true_and, and_true, Int32.reduceOfInt, z_i10, z_i01, Int32.reduceLT, Int32.reduceLE, Int32.reduceAdd, Int32.reduceSub, z_set, z_set2, z_kil, List.set_cons_zero, List.set_cons_succ, List.take_succ_cons, List.take_zero, List.drop_succ_cons, List.drop_zero, List.reverse_cons, List.reverse_nil, List.nil_append, List.cons_append, List.getD_cons_succ, List.getD_cons_zero, List.getD_nil, List.length_cons, List.length_nil, List.map_cons, List.map_nil, List.sum_cons, List.sum_nil, Nat.reduceAdd, Nat.reduceLeDiff, Value.category, Option.toList, true_or, or_true, z_ua, ↓reduceIte, Nat.reduceEqDiff, eq_self, not_true_eq_false, not_false_eq_true, false_implies, true_implies, Classical.not_not, Nat.le_refl, Nat.zero_le]
    try dsimp only
    exact hQ _ _ (x_po.id hx hr _)
  · refine z_callD (c16n (n := n) (I := I) (J := J) (k := k) (w := w) hS (fun _ => he1) (fun q => h ⟨b1, ⟨EN, E, A, he3, q.2.1⟩, q.2.2⟩)) (by omega) (by omega) (by omega) (Nat.le_of_ble_eq_true rfl) ?_
    try simp only [zW, z_wp1, z_ld, z_f0, z_f1, z_f2, z_f3, List.getElem?_cons_zero, List.getElem?_cons_succ, true_and, and_true, Int32.reduceOfInt, z_i10, z_i01, Int32.reduceLT, Int32.reduceLE, Int32.reduceAdd, Int32.reduceSub, z_set, z_set2, z_kil, List.set_cons_zero, List.set_cons_succ, List.take_succ_cons, List.take_zero, List.drop_succ_cons, List.drop_zero, List.reverse_cons, List.reverse_nil, List.nil_append, List.cons_append, List.getD_cons_succ, List.getD_cons_zero, List.getD_nil, List.length_cons, List.length_nil, List.map_cons, List.map_nil, List.sum_cons, List.sum_nil, Nat.reduceAdd, Nat.reduceLeDiff, Value.category, Option.toList, true_or, or_true, z_ua, ↓reduceIte, Nat.reduceEqDiff, eq_self, not_true_eq_false, not_false_eq_true, false_implies, true_implies, Classical.not_not, Nat.le_refl, Nat.zero_le]
    try dsimp only
    exact hQ _ _ (x_po.id hx hr _)
/-- explore -/
theorem d136a (hx : XI n K L I J G M c F N tr cd D ch rr) (hr : rr < 600) {mode : Int32} (hmd : mode = 0 ∨ mode = 1) : z_Ctr l 6 136 [.ref 5, .int mode] (n, K, L, I, J, G) 0 0 (x_pq n I J (fun M' => mGe M M' ∧ ¬ M' 71 38 = 0 ∧ m_ex M' N F 0 ∧ ∀ g, g < F → M' 90 g = mR M c N tr mode g) c F N tr (rr + 1) (x_u L D) (.int (nI F))) := by
  have hS : SS K L G := hx.S
  obtain ⟨f1, f2, f3, f4⟩ := hx.fn
  refine z_ctr (by decide) (by decide +kernel) (Nat.le_of_ble_eq_true rfl) (by decide +kernel) (fun X hl hj hd hm hs hsc hQ => ?_)
  show zV X 0 [some (.ref 5), some (.int mode)] [] _ 0 0
  subst hl
  refine zW_ok hj B136_0 0 _ _ _ _ _ b136_0 ?_
  simp only [B136_0, zW, z_wp1, z_ld, z_f0, z_f1, z_f2, z_f3, List.getElem?_cons_zero, List.getElem?_cons_succ, true_and, and_true, Int32.reduceOfInt, z_i10, z_i01, Int32.reduceLT, Int32.reduceLE, Int32.reduceAdd, Int32.reduceSub, z_set, z_set2, z_kil, List.set_cons_zero, List.set_cons_succ, List.take_succ_cons, List.take_zero, List.drop_succ_cons, List.drop_zero, List.reverse_cons, List.reverse_nil, List.nil_append, List.cons_append, List.getD_cons_succ, List.getD_cons_zero, List.getD_nil, List.length_cons, List.length_nil, List.map_cons, List.map_nil, List.sum_cons, List.sum_nil, Nat.reduceAdd, Nat.reduceLeDiff, Value.category, Option.toList, true_or, or_true, z_ua, ↓reduceIte, Nat.reduceEqDiff, eq_self, not_true_eq_false, not_false_eq_true, false_implies, true_implies, Classical.not_not, Nat.le_refl, Nat.zero_le]
  try dsimp only
  refine z_callD (c155 (h := (n, K, L, I, J, G)) mode) (by omega) (by omega) (by omega) (Nat.le_of_ble_eq_true rfl) ?_
  try simp only [zW, z_wp1, z_ld, z_f0, z_f1, z_f2, z_f3, List.getElem?_cons_zero, List.getElem?_cons_succ, true_and, and_true, Int32.reduceOfInt, z_i10, z_i01, Int32.reduceLT, Int32.reduceLE, Int32.reduceAdd, Int32.reduceSub, z_set, z_set2, z_kil, List.set_cons_zero, List.set_cons_succ, List.take_succ_cons, List.take_zero, List.drop_succ_cons, List.drop_zero, List.reverse_cons, List.reverse_nil, List.nil_append, List.cons_append, List.getD_cons_succ, List.getD_cons_zero, List.getD_nil, List.length_cons, List.length_nil, List.map_cons, List.map_nil, List.sum_cons, List.sum_nil, Nat.reduceAdd, Nat.reduceLeDiff, Value.category, Option.toList, true_or, or_true, z_ua, ↓reduceIte, Nat.reduceEqDiff, eq_self, not_true_eq_false, not_false_eq_true, false_implies, true_implies, Classical.not_not, Nat.le_refl, Nat.zero_le, z_b1 hmd]
  try dsimp only
  refine zW_ok hj B136_9 9 _ _ _ _ _ b136_9 ?_
  simp only [B136_9, zW, z_wp1, z_ld, z_f0, z_f1, z_f2, z_f3, List.getElem?_cons_zero, List.getElem?_cons_succ, true_and, and_true, Int32.reduceOfInt, z_i10, z_i01, Int32.reduceLT, Int32.reduceLE, Int32.reduceAdd, Int32.reduceSub, z_set, z_set2, z_kil, List.set_cons_zero, List.set_cons_succ, List.take_succ_cons, List.take_zero, List.drop_succ_cons, List.drop_zero, List.reverse_cons, List.reverse_nil, List.nil_append, List.cons_append, List.getD_cons_succ, List.getD_cons_zero, List.getD_nil, List.length_cons, List.length_nil, List.map_cons, List.map_nil, List.sum_cons, List.sum_nil, Nat.reduceAdd, Nat.reduceLeDiff, Value.category, Option.toList, true_or, or_true, z_ua, ↓reduceIte, Nat.reduceEqDiff, eq_self, not_true_eq_false, not_false_eq_true, false_implies, true_implies, Classical.not_not, Nat.le_refl, Nat.zero_le, sK5 hS, sG5_1 hS, sK10 hS]
  try dsimp only
  refine z_callQ (c96x hx) (by omega) (by omega) (by omega) (Nat.le_of_ble_eq_true rfl) ?_
  rintro r h' ⟨rfl, I', rfl, hx', hI, hw⟩
  obtain ⟨g1, g2, g3, g4⟩ := hx'.fn
  simp only [zW, z_wp1, z_ld, z_f0, z_f1, z_f2, z_f3, List.getElem?_cons_zero, List.getElem?_cons_succ, true_and, and_true, Int32.reduceOfInt, z_i10, z_i01, Int32.reduceLT, Int32.reduceLE, Int32.reduceAdd, Int32.reduceSub, z_set, z_set2, z_kil, List.set_cons_zero, List.set_cons_succ, List.take_succ_cons, List.take_zero, List.drop_succ_cons, List.drop_zero, List.reverse_cons, List.reverse_nil, List.nil_append, List.cons_append, List.getD_cons_succ, List.getD_cons_zero, List.getD_nil, List.length_cons, List.length_nil, List.map_cons, List.map_nil, List.sum_cons, List.sum_nil, Nat.reduceAdd, Nat.reduceLeDiff, Value.category, Option.toList, true_or, or_true, z_ua, ↓reduceIte, Nat.reduceEqDiff, eq_self, not_true_eq_false, not_false_eq_true, false_implies, true_implies, Classical.not_not, Nat.le_refl, Nat.zero_le, sK5 hS, sG5_1 hS, sK10 hS, sG5_3 hS, sK34 hS]
  try dsimp only
  refine z_callQ (c10 (n := n) (J := J) hS hx'.C g1 g2 g3 g4 mode) (by omega) (by omega) (by omega) (Nat.le_of_ble_eq_true rfl) ?_
  rintro r h' ⟨rfl, I2, rfl, o2, q1, q2, q3⟩
  have a7 : I2 34 4 = nI F := q2.2.2.2.1
  simp only [zW, z_wp1, z_ld, z_f0, z_f1, z_f2, z_f3, List.getElem?_cons_zero, List.getElem?_cons_succ, true_and, and_true, Int32.reduceOfInt, z_i10, z_i01, Int32.reduceLT, Int32.reduceLE, Int32.reduceAdd, Int32.reduceSub, z_set, z_set2, z_kil, List.set_cons_zero, List.set_cons_succ, List.take_succ_cons, List.take_zero, List.drop_succ_cons, List.drop_zero, List.reverse_cons, List.reverse_nil, List.nil_append, List.cons_append, List.getD_cons_succ, List.getD_cons_zero, List.getD_nil, List.length_cons, List.length_nil, List.map_cons, List.map_nil, List.sum_cons, List.sum_nil, Nat.reduceAdd, Nat.reduceLeDiff, Value.category, Option.toList, true_or, or_true, z_ua, ↓reduceIte, Nat.reduceEqDiff, eq_self, not_true_eq_false, not_false_eq_true, false_implies, true_implies, Classical.not_not, Nat.le_refl, Nat.zero_le, sK5 hS, sG5_3 hS, sK34 hS, sK34 hS, a7]
  try dsimp only
  refine hQ _ _ ⟨rfl, n, K, L, I2, J, G, cd, D, ch, rfl, fun M' hP => ?_, hS, Nat.le_refl _, fun q a b => ⟨by rw [o2 q (by omega) (by omega), hI q (by omega)], rfl⟩, Nat.le_refl _⟩
  obtain ⟨hg, m1, m2, m3⟩ := hP
  refine (hx'.up hr).ex (fun q hq => o2 q (by omega) (by omega)) hg (Or.inr ⟨q1, m1, N, F, 0, 0, q2, fun u hu => absurd hu (by omega), m2, fun e he => ?_, fun k hk => absurd hk (by omega)⟩)
  rw [m3 e he, q3 e he, hw.row f4 hmd he]
  exact ⟨m_row_in (by omega), rfl⟩
theorem d136b (hx : XI n K L I J G M c F N tr cd D ch rr) (hr : rr < 600) {mode : Int32} (hmd : ¬ (mode = 0 ∨ mode = 1)) : z_Ctr l 6 136 [.ref 5, .int mode] (n, K, L, I, J, G) 0 0 (x_po n I J M c F N tr (rr + 1) (x_u L D) (.int (-1))) := by
  have hS : SS K L G := hx.S
  refine z_ctr (by decide) (by decide +kernel) (Nat.le_of_ble_eq_true rfl) (by decide +kernel) (fun X hl hj hd hm hs hsc hQ => ?_)
  show zV X 0 [some (.ref 5), some (.int mode)] [] _ 0 0
  refine zW_ok hj B136_0 0 _ _ _ _ _ b136_0 ?_
  simp only [B136_0, zW, z_wp1, z_ld, z_f0, z_f1, z_f2, z_f3, List.getElem?_cons_zero, List.getElem?_cons_succ, true_and, and_true, Int32.reduceOfInt, z_i10, z_i01, Int32.reduceLT, Int32.reduceLE, Int32.reduceAdd, Int32.reduceSub, z_set, z_set2, z_kil, List.set_cons_zero, List.set_cons_succ, List.take_succ_cons, List.take_zero, List.drop_succ_cons, List.drop_zero, List.reverse_cons, List.reverse_nil, List.nil_append, List.cons_append, List.getD_cons_succ, List.getD_cons_zero, List.getD_nil, List.length_cons, List.length_nil, List.map_cons, List.map_nil, List.sum_cons, List.sum_nil, Nat.reduceAdd, Nat.reduceLeDiff, Value.category, Option.toList, true_or, or_true, z_ua, ↓reduceIte, Nat.reduceEqDiff, eq_self, not_true_eq_false, not_false_eq_true, false_implies, true_implies, Classical.not_not, Nat.le_refl, Nat.zero_le]
  try dsimp only
  refine z_callD (c155 (h := (n, K, L, I, J, G)) mode) (by omega) (by omega) (by omega) (Nat.le_of_ble_eq_true rfl) ?_
  try simp only [zW, z_wp1, z_ld, z_f0, z_f1, z_f2, z_f3, List.getElem?_cons_zero, List.getElem?_cons_succ, true_and, and_true, Int32.reduceOfInt, z_i10, z_i01, Int32.reduceLT, Int32.reduceLE, Int32.reduceAdd, Int32.reduceSub, z_set, z_set2, z_kil, List.set_cons_zero, List.set_cons_succ, List.take_succ_cons, List.take_zero, List.drop_succ_cons, List.drop_zero, List.reverse_cons, List.reverse_nil, List.nil_append, List.cons_append, List.getD_cons_succ, List.getD_cons_zero, List.getD_nil, List.length_cons, List.length_nil, List.map_cons, List.map_nil, List.sum_cons, List.sum_nil, Nat.reduceAdd, Nat.reduceLeDiff, Value.category, Option.toList, true_or, or_true, z_ua, ↓reduceIte, Nat.reduceEqDiff, eq_self, not_true_eq_false, not_false_eq_true, false_implies, true_implies, Classical.not_not, Nat.le_refl, Nat.zero_le, z_b0 hmd]
  try dsimp only
  exact hQ _ _ (x_po.id hx hr _)
end PUB4
