/-! The model: rows of the table -/
/-- the scales as they are reckoned: N marks, and what each says of a find's measures -/
def m_scale (I : Nat → Nat → Int32) (N : Nat) (tr : Nat → (Int32 → Int32) → Int32) : Prop := I 71 17 = nI N ∧ N ≤ 12 ∧ ∀ i, i < N → ∃ cs, m_code I i cs ∧ ∀ kn, ∃ b, m_ev kn cs [] = some [(tr i kn, b)]
def m_st (I : Nat → Nat → Int32) (c F N : Nat) (tr : Nat → (Int32 → Int32) → Int32) : Prop := I 71 2 = nI c ∧ c ≤ 400 ∧ I 71 1 = nI F ∧ F ≤ 16 ∧ m_scale I N tr
/-- what the state's words look at is unchanged -/
def m_sm (I I' : Nat → Nat → Int32) : Prop := I' 71 2 = I 71 2 ∧ I' 71 1 = I 71 1 ∧ I' 71 17 = I 71 17 ∧ (∀ q, 72 ≤ q → q ≤ 76 → I' q = I q) ∧ (∀ q, 79 ≤ q → q ≤ 82 → I' q = I q)
theorem m_sm.st {I I' : Nat → Nat → Int32} {c F N : Nat} {tr : Nat → (Int32 → Int32) → Int32} (h : m_sm I I') (hs : m_st I c F N tr) : m_st I' c F N tr := by
  obtain ⟨s1, s2, s3, s4, s5, s6, s7⟩ := hs
  obtain ⟨e1, e2, e3, e4, e5⟩ := h
  refine ⟨by rw [e1]; exact s1, s2, by rw [e2]; exact s3, s4, by rw [e3]; exact s5, s6, fun i hi => ?_⟩
  obtain ⟨cs, ⟨a, h1, h2, h3, h4⟩, h5⟩ := s7 i hi
  refine ⟨cs, ⟨a, by rw [e5 79 (by omega) (by omega)]; exact h1, by rw [e5 80 (by omega) (by omega)]; exact h2, h3, fun t x hx => ?_⟩, h5⟩
  rw [e5 81 (by omega) (by omega), e5 82 (by omega) (by omega)]
  exact h4 t x hx
theorem m_sm.kn {I I' : Nat → Nat → Int32} (h : m_sm I I') (c : Nat) (k f m d : Int32) : mI_known I' c k f m d = mI_known I c k f m d := by
  have e4 := h.2.2.2.1
  simp only [mI_known, e4 72 (by omega) (by omega), e4 73 (by omega) (by omega), e4 74 (by omega) (by omega), e4 75 (by omega) (by omega), e4 76 (by omega) (by omega)]
theorem m_sm.rf (I : Nat → Nat → Int32) : m_sm I I := ⟨rfl, rfl, rfl, fun _ _ _ => rfl, fun _ _ _ => rfl⟩
theorem m_sm.tr {I I' I2 : Nat → Nat → Int32} (h : m_sm I I') (h2 : m_sm I' I2) : m_sm I I2 := ⟨h2.1.trans h.1, h2.2.1.trans h.2.1, h2.2.2.1.trans h.2.2.1, fun q a b => (h2.2.2.2.1 q a b).trans (h.2.2.2.1 q a b), fun q a b => (h2.2.2.2.2 q a b).trans (h.2.2.2.2 q a b)⟩
theorem m_sm.t (I : Nat → Nat → Int32) : m_sm I (m_t I) := ⟨by simp [z_u], by simp [z_u], by simp [z_u], fun q a b => z_u_ne (by omega), fun q a b => z_u_ne (by omega)⟩
theorem m_off.sm {I I' : Nat → Nat → Int32} (h : m_off I I') : m_sm I I' := ⟨by rw [h 71 (by decide) (by decide)], by rw [h 71 (by decide) (by decide)], by rw [h 71 (by decide) (by decide)], fun q a b => h q (by omega) (by omega), fun q a b => h q (by omega) (by omega)⟩
/-- the mark i of the find f, in a view -/
abbrev mT (I : Nat → Nat → Int32) (c : Nat) (tr : Nat → (Int32 → Int32) → Int32) (k d : Int32) (i : Nat) (f : Int32) : Int32 := tr i (fun m => mI_known I c k f m d)
def m_row (T : Nat → Int32 → Int32) (mode f : Int32) : Nat → Int32
  | 0 => 0
  | i + 1 => if T i f = 1 ∨ (T i f = 2 ∧ mode = 1) then m_row T mode f i ||| 1 <<< (nI i &&& 31) else m_row T mode f i
section M8
variable {l : Launch} {n : Nat} {K L : Nat → Nat} {I : Nat → Nat → Int32} {J : Nat → Nat → Int64} {G : Nat → Nat → Value} {c F N : Nat} {tr : Nat → (Int32 → Int32) → Int32}
theorem c196s (hS : SS K L G) (hst : m_st I c F N tr) {i : Nat} (hi : i < N) (f k d : Int32) :
    z_Ctr l 2 196 [.ref 71, .int (nI i), .int f, .int k, .int d] (n, K, L, I, J, G) 0 0 (fun r h' => r = some (.int (mT I c tr k d i f)) ∧ ∃ I', h' = (n, K, L, I', J, G) ∧ m_off I I') := by
  obtain ⟨s1, s2, s3, s4, s5, s6, s7⟩ := hst
  obtain ⟨cs, h1, h2⟩ := s7 i hi
  obtain ⟨b, h3⟩ := h2 (fun m => mI_known I c k f m d)
  exact c196 hS s1 s2 (by omega) h1 h3
/-- mark -/
theorem c197a (hS : SS K L G) (hst : m_st I c F N tr) {i f : Nat} (hi : i < N) (hf : f < F) : z_Ctr l 3 197 [.ref 71, .int (nI f), .int (nI i)] (n, K, L, I, J, G) 0 0 (fun r h' => r = some (.int (mT I c tr (I 71 8) (I 71 9) i (nI f))) ∧ ∃ I', h' = (n, K, L, I', J, G) ∧ m_off (m_t I) I') := by
  have hst' := (m_sm.t I).st hst
  obtain ⟨s1, s2, s3, s4, s5, s6, s7⟩ := id hst
  have h1 : (0 : Int32) ≤ nI f ∧ nI f < I 71 1 := ⟨nI_pos' (by omega), by rw [s3]; exact nI_lt hf (by omega)⟩
  have e4 : nI N - 1 = nI (N - 1) := by
    obtain ⟨b, rfl⟩ : ∃ b, N = b + 1 := ⟨N - 1, by omega⟩
    exact nI_pred b
  have h2 : (0 : Int32) ≤ nI i ∧ nI i ≤ nI (N - 1) := ⟨nI_pos' (by omega), nI_le (by omega) (by omega)⟩
  refine z_ctr (by decide) (by decide +kernel) (Nat.le_of_ble_eq_true rfl) (by decide +kernel) (fun X hl hj hd hm hs hsc hQ => ?_)
  show zV X 0 [some (.ref 71), some (.int (nI f)), some (.int (nI i))] [] _ 0 0
  refine zW_ok hj B197_0 0 _ _ _ _ _ b197_0 ?_
  simp only [B197_0, zW, z_wp1, z_ld, z_f0, z_f1, z_f2, z_f3, List.getElem?_cons_zero, List.getElem?_cons_succ, true_and, and_true, Int32.reduceOfInt, z_i10, z_i01, Int32.reduceLT, Int32.reduceLE, Int32.reduceAdd, Int32.reduceSub, z_set, z_set2, z_kil, List.set_cons_zero, List.set_cons_succ, List.take_succ_cons, List.take_zero, List.drop_succ_cons, List.drop_zero, List.reverse_cons, List.reverse_nil, List.nil_append, List.cons_append, List.getD_cons_succ, List.getD_cons_zero, List.getD_nil, List.length_cons, List.length_nil, List.map_cons, List.map_nil, List.sum_cons, List.sum_nil, Nat.reduceAdd, Nat.reduceLeDiff, Value.category, Option.toList, true_or, or_true, z_ua, ↓reduceIte, Nat.reduceEqDiff, eq_self, not_true_eq_false, not_false_eq_true, false_implies, true_implies, Classical.not_not, Nat.le_refl, Nat.zero_le, sK71 hS]
  try dsimp only
  refine z_callD (c161 hS (nI f)) (by omega) (by omega) (by omega) (Nat.le_of_ble_eq_true rfl) ?_
  try simp only [zW, z_wp1, z_ld, z_f0, z_f1, z_f2, z_f3, List.getElem?_cons_zero, List.getElem?_cons_succ, true_and, and_true, Int32.reduceOfInt, z_i10, z_i01, Int32.reduceLT, Int32.reduceLE, Int32.reduceAdd, Int32.reduceSub, z_set, z_set2, z_kil, List.set_cons_zero, List.set_cons_succ, List.take_succ_cons, List.take_zero, List.drop_succ_cons, List.drop_zero, List.reverse_cons, List.reverse_nil, List.nil_append, List.cons_append, List.getD_cons_succ, List.getD_cons_zero, List.getD_nil, List.length_cons, List.length_nil, List.map_cons, List.map_nil, List.sum_cons, List.sum_nil, Nat.reduceAdd, Nat.reduceLeDiff, Value.category, Option.toList, true_or, or_true, z_ua, ↓reduceIte, Nat.reduceEqDiff, eq_self, not_true_eq_false, not_false_eq_true, false_implies, true_implies, Classical.not_not, Nat.le_refl, Nat.zero_le, sK71 hS, z_b1 h1, s5, e4]
  try dsimp only
  refine z_callD (c160 hS (nI i) 0 (nI (N - 1))) (by omega) (by omega) (by omega) (Nat.le_of_ble_eq_true rfl) ?_
  try simp only [zW, z_wp1, z_ld, z_f0, z_f1, z_f2, z_f3, List.getElem?_cons_zero, List.getElem?_cons_succ, true_and, and_true, Int32.reduceOfInt, z_i10, z_i01, Int32.reduceLT, Int32.reduceLE, Int32.reduceAdd, Int32.reduceSub, z_set, z_set2, z_kil, List.set_cons_zero, List.set_cons_succ, List.take_succ_cons, List.take_zero, List.drop_succ_cons, List.drop_zero, List.reverse_cons, List.reverse_nil, List.nil_append, List.cons_append, List.getD_cons_succ, List.getD_cons_zero, List.getD_nil, List.length_cons, List.length_nil, List.map_cons, List.map_nil, List.sum_cons, List.sum_nil, Nat.reduceAdd, Nat.reduceLeDiff, Value.category, Option.toList, true_or, or_true, z_ua, ↓reduceIte, Nat.reduceEqDiff, eq_self, not_true_eq_false, not_false_eq_true, false_implies, true_implies, Classical.not_not, Nat.le_refl, Nat.zero_le, sK71 hS, z_b1 h2]
  try dsimp only
  refine z_callQ (c196s (I := m_t I) hS hst' hi (nI f) (I 71 8) (I 71 9)) (by omega) (by omega) (by omega) (Nat.le_of_ble_eq_true rfl) ?_
  rintro r h' ⟨rfl, I', rfl, ho⟩
  simp only [zW, z_wp1, z_ld, z_f0, z_f1, z_f2, z_f3, List.getElem?_cons_zero, List.getElem?_cons_succ, true_and, and_true, Int32.reduceOfInt, z_i10, z_i01, Int32.reduceLT, Int32.reduceLE, Int32.reduceAdd, Int32.reduceSub, z_set, z_set2, z_kil, List.set_cons_zero, List.set_cons_succ, List.take_succ_cons, List.take_zero, List.drop_succ_cons, List.drop_zero, List.reverse_cons, List.reverse_nil, List.nil_append, List.cons_append, List.getD_cons_succ, List.getD_cons_zero, List.getD_nil, List.length_cons, List.length_nil, List.map_cons, List.map_nil, List.sum_cons, List.sum_nil, Nat.reduceAdd, Nat.reduceLeDiff, Value.category, Option.toList, true_or, or_true, z_ua, ↓reduceIte, Nat.reduceEqDiff, eq_self, not_true_eq_false, not_false_eq_true, false_implies, true_implies, Classical.not_not, Nat.le_refl, Nat.zero_le]
  try dsimp only
  refine zW_ok hj B197_46 46 _ _ _ _ _ b197_46 ?_
  simp only [B197_46, zW, z_wp1, z_ld, z_f0, z_f1, z_f2, z_f3, List.getElem?_cons_zero, List.getElem?_cons_succ, true_and, and_true, Int32.reduceOfInt, z_i10, z_i01, Int32.reduceLT, Int32.reduceLE, Int32.reduceAdd, Int32.reduceSub, z_set, z_set2, z_kil, List.set_cons_zero, List.set_cons_succ, List.take_succ_cons, List.take_zero, List.drop_succ_cons, List.drop_zero, List.reverse_cons, List.reverse_nil, List.nil_append, List.cons_append, List.getD_cons_succ, List.getD_cons_zero, List.getD_nil, List.length_cons, List.length_nil, List.map_cons, List.map_nil, List.sum_cons, List.sum_nil, Nat.reduceAdd, Nat.reduceLeDiff, Value.category, Option.toList, true_or, or_true, z_ua, ↓reduceIte, Nat.reduceEqDiff, eq_self, not_true_eq_false, not_false_eq_true, false_implies, true_implies, Classical.not_not, Nat.le_refl, Nat.zero_le]
  try dsimp only
  exact hQ _ _ ⟨rfl, I', rfl, ho⟩
theorem c197b (hS : SS K L G) (hst : m_st I c F N tr) {i f : Int32} (h : ¬ ((0 ≤ f ∧ f < nI F) ∧ (0 ≤ i ∧ i ≤ nI N - 1))) : z_D l 3 197 [.ref 71, .int f, .int i] (n, K, L, I, J, G) (some (.int (-1))) (n, K, L, m_t I, J, G) := by
  obtain ⟨s1, s2, s3, s4, s5, s6, s7⟩ := id hst
  refine z_ctr (by decide) (by decide +kernel) (Nat.le_of_ble_eq_true rfl) (by decide +kernel) (fun X hl hj hd hm hs hsc hQ => ?_)
  show zV X 0 [some (.ref 71), some (.int f), some (.int i)] [] _ 0 0
  have no : zV X 45 [some (.ref 71), some (.int f), some (.int i)] [] (n, K, L, m_t I, J, G) 0 0 := by
    refine zW_ok hj B197_45 45 _ _ _ _ _ b197_45 ?_
    simp only [B197_45, zW, z_wp1, z_ld, z_f0, z_f1, z_f2, z_f3, List.getElem?_cons_zero, List.getElem?_cons_succ, true_and, and_true, Int32.reduceOfInt, z_i10, z_i01, Int32.reduceLT, Int32.reduceLE, Int32.reduceAdd, Int32.reduceSub, z_set, z_set2, z_kil, List.set_cons_zero, List.set_cons_succ, List.take_succ_cons, List.take_zero, List.drop_succ_cons, List.drop_zero, List.reverse_cons, List.reverse_nil, List.nil_append, List.cons_append, List.getD_cons_succ, List.getD_cons_zero, List.getD_nil, List.length_cons, List.length_nil, List.map_cons, List.map_nil, List.sum_cons, List.sum_nil, Nat.reduceAdd, Nat.reduceLeDiff, Value.category, Option.toList, true_or, or_true, z_ua, ↓reduceIte, Nat.reduceEqDiff, eq_self, not_true_eq_false, not_false_eq_true, false_implies, true_implies, Classical.not_not, Nat.le_refl, Nat.zero_le]
    try dsimp only
    refine zW_ok hj B197_46 46 _ _ _ _ _ b197_46 ?_
    simp only [B197_46, zW, z_wp1, z_ld, z_f0, z_f1, z_f2, z_f3, List.getElem?_cons_zero, List.getElem?_cons_succ, true_and, and_true, Int32.reduceOfInt, z_i10, z_i01, Int32.reduceLT, Int32.reduceLE, Int32.reduceAdd, Int32.reduceSub, z_set, z_set2, z_kil, List.set_cons_zero, List.set_cons_succ, List.take_succ_cons, List.take_zero, List.drop_succ_cons, List.drop_zero, List.reverse_cons, List.reverse_nil, List.nil_append, List.cons_append, List.getD_cons_succ, List.getD_cons_zero, List.getD_nil, List.length_cons, List.length_nil, List.map_cons, List.map_nil, List.sum_cons, List.sum_nil, Nat.reduceAdd, Nat.reduceLeDiff, Value.category, Option.toList, true_or, or_true, z_ua, ↓reduceIte, Nat.reduceEqDiff, eq_self, not_true_eq_false, not_false_eq_true, false_implies, true_implies, Classical.not_not, Nat.le_refl, Nat.zero_le]
    try dsimp only
    exact hQ _ _ ⟨rfl, rfl⟩
  refine zW_ok hj B197_0 0 _ _ _ _ _ b197_0 ?_
  simp only [B197_0, zW, z_wp1, z_ld, z_f0, z_f1, z_f2, z_f3, List.getElem?_cons_zero, List.getElem?_cons_succ, true_and, and_true, Int32.reduceOfInt, z_i10, z_i01, Int32.reduceLT, Int32.reduceLE, Int32.reduceAdd, Int32.reduceSub, z_set, z_set2, z_kil, List.set_cons_zero, List.set_cons_succ, List.take_succ_cons, List.take_zero, List.drop_succ_cons, List.drop_zero, List.reverse_cons, List.reverse_nil, List.nil_append, List.cons_append, List.getD_cons_succ, List.getD_cons_zero, List.getD_nil, List.length_cons, List.length_nil, List.map_cons, List.map_nil, List.sum_cons, List.sum_nil, Nat.reduceAdd, Nat.reduceLeDiff, Value.category, Option.toList, true_or, or_true, z_ua, ↓reduceIte, Nat.reduceEqDiff, eq_self, not_true_eq_false, not_false_eq_true, false_implies, true_implies, Classical.not_not, Nat.le_refl, Nat.zero_le, sK71 hS]
  try dsimp only
  refine z_callD (c161 hS f) (by omega) (by omega) (by omega) (Nat.le_of_ble_eq_true rfl) ?_
  try simp only [zW, z_wp1, z_ld, z_f0, z_f1, z_f2, z_f3, List.getElem?_cons_zero, List.getElem?_cons_succ, true_and, and_true, Int32.reduceOfInt, z_i10, z_i01, Int32.reduceLT, Int32.reduceLE, Int32.reduceAdd, Int32.reduceSub, z_set, z_set2, z_kil, List.set_cons_zero, List.set_cons_succ, List.take_succ_cons, List.take_zero, List.drop_succ_cons, List.drop_zero, List.reverse_cons, List.reverse_nil, List.nil_append, List.cons_append, List.getD_cons_succ, List.getD_cons_zero, List.getD_nil, List.length_cons, List.length_nil, List.map_cons, List.map_nil, List.sum_cons, List.sum_nil, Nat.reduceAdd, Nat.reduceLeDiff, Value.category, Option.toList, true_or, or_true, z_ua, ↓reduceIte, Nat.reduceEqDiff, eq_self, not_true_eq_false, not_false_eq_true, false_implies, true_implies, Classical.not_not, Nat.le_refl, Nat.zero_le, sK71 hS, z_b_eq, s3, s5]
  try dsimp only
  refine ⟨fun _ => no, fun h1 => ?_⟩
  refine z_callD (c160 hS i 0 (nI N - 1)) (by omega) (by omega) (by omega) (Nat.le_of_ble_eq_true rfl) ?_
  try simp only [zW, z_wp1, z_ld, z_f0, z_f1, z_f2, z_f3, List.getElem?_cons_zero, List.getElem?_cons_succ, true_and, and_true, Int32.reduceOfInt, z_i10, z_i01, Int32.reduceLT, Int32.reduceLE, Int32.reduceAdd, Int32.reduceSub, z_set, z_set2, z_kil, List.set_cons_zero, List.set_cons_succ, List.take_succ_cons, List.take_zero, List.drop_succ_cons, List.drop_zero, List.reverse_cons, List.reverse_nil, List.nil_append, List.cons_append, List.getD_cons_succ, List.getD_cons_zero, List.getD_nil, List.length_cons, List.length_nil, List.map_cons, List.map_nil, List.sum_cons, List.sum_nil, Nat.reduceAdd, Nat.reduceLeDiff, Value.category, Option.toList, true_or, or_true, z_ua, ↓reduceIte, Nat.reduceEqDiff, eq_self, not_true_eq_false, not_false_eq_true, false_implies, true_implies, Classical.not_not, Nat.le_refl, Nat.zero_le, sK71 hS, z_b_eq]
  try dsimp only
  exact ⟨fun _ => no, fun h2 => absurd ⟨h1, h2⟩ h⟩
/-- findRows: rows of finds below F are reckoned, others stay -/
def m_off6 (I I' : Nat → Nat → Int32) : Prop := ∀ q, q ≠ 84 → q ≠ 85 → q ≠ 86 → I' q = I q
theorem m_off6.sm {I I' : Nat → Nat → Int32} (h : m_off6 I I') : m_sm I I' := ⟨by rw [h 71 (by decide) (by decide) (by decide)], by rw [h 71 (by decide) (by decide) (by decide)], by rw [h 71 (by decide) (by decide) (by decide)], fun q a b => h q (by omega) (by omega) (by omega), fun q a b => h q (by omega) (by omega) (by omega)⟩
theorem c198_in {X : zX} (hS : SS K L G) (hj : X.2.1 = 198) (hd : X.2.2.1 = 3) (hm : X.2.2.2.1 = 0) (hs : X.2.2.2.2.1 = 0) (hst : m_st I c F N tr) {mode : Int32} {f : Nat} (hf : f < F)
    (kk : ∀ I', m_off6 I I' → (∀ g, g < f → I' 86 g = m_row (mT I c tr (I 71 8) (I 71 9)) mode (nI g) N) → I' 86 f = m_row (mT I c tr (I 71 8) (I 71 9)) mode (nI f) N → zV X 82 [some (.ref 71), some (.int mode), some (.int (nI f)), some (.int (nI N)), none] [] (n, K, L, I', J, G) 0 0) : ∀ (k i : Nat) (I' : Nat → Nat → Int32), i + k = N → m_off6 I I' → (∀ g, g < f → I' 86 g = m_row (mT I c tr (I 71 8) (I 71 9)) mode (nI g) N) → I' 86 f = m_row (mT I c tr (I 71 8) (I 71 9)) mode (nI f) i →
      zV X 19 [some (.ref 71), some (.int mode), some (.int (nI f)), some (.int (nI i)), none] [] (n, K, L, I', J, G) 0 0
  | 0, i, I', hi, ho, hg, hr => by
    have e : i = N := by omega
    subst e
    have hst' := ho.sm.st hst
    obtain ⟨s1, s2, s3, s4, s5, s6, s7⟩ := id hst'
    refine zW_ok hj B198_19 19 _ _ _ _ _ b198_19 ?_
    simp only [B198_19, zW, z_wp1, z_ld, z_f0, z_f1, z_f2, z_f3, List.getElem?_cons_zero, List.getElem?_cons_succ, true_and, and_true, Int32.reduceOfInt, z_i10, z_i01, Int32.reduceLT, Int32.reduceLE, Int32.reduceAdd, Int32.reduceSub, z_set, z_set2, z_kil, List.set_cons_zero, List.set_cons_succ, List.take_succ_cons, List.take_zero, List.drop_succ_cons, List.drop_zero, List.reverse_cons, List.reverse_nil, List.nil_append, List.cons_append, List.getD_cons_succ, List.getD_cons_zero, List.getD_nil, List.length_cons, List.length_nil, List.map_cons, List.map_nil, List.sum_cons, List.sum_nil, Nat.reduceAdd, Nat.reduceLeDiff, Value.category, Option.toList, true_or, or_true, z_ua, ↓reduceIte, Nat.reduceEqDiff, eq_self, not_true_eq_false, not_false_eq_true, false_implies, true_implies, Classical.not_not, Nat.le_refl, Nat.zero_le, sK71 hS, s5]
    try dsimp only
    refine ⟨fun _ => kk I' ho hg hr, fun hc => absurd (nI_le (Nat.le_refl _) (by omega)) hc⟩
  | k + 1, i, I', hi, ho, hg, hr => by
    have hst' := ho.sm.st hst
    obtain ⟨s1, s2, s3, s4, s5, s6, s7⟩ := id hst'
    have g71 : I' 71 = I 71 := ho 71 (by decide) (by decide) (by decide)
    have ef : (nI f).toNatClampNeg = f := nI_clamp (by omega)
    have vf : vp_in (nI f) 16 := vp_in_nI (by omega) (by omega)
    have eT : mT I' c tr (I 71 8) (I 71 9) i (nI f) = mT I c tr (I 71 8) (I 71 9) i (nI f) := by
      simp only [mT, ho.sm.kn]
    have go : ∀ (I2 : Nat → Nat → Int32) (x : Option Value), m_off6 I I2 → (∀ g, g < f → I2 86 g = I' 86 g) → I2 86 f = m_row (mT I c tr (I 71 8) (I 71 9)) mode (nI f) (i + 1) → zV X 76 [some (.ref 71), some (.int mode), some (.int (nI f)), some (.int (nI i)), x] [] (n, K, L, I2, J, G) 0 0 := by
      intro I2 x ho2 hg2 hr2
      refine zW_ok hj B198_76 76 _ _ _ _ _ b198_76 ?_
      simp only [B198_76, zW, z_wp1, z_ld, z_f0, z_f1, z_f2, z_f3, List.getElem?_cons_zero, List.getElem?_cons_succ, true_and, and_true, Int32.reduceOfInt, z_i10, z_i01, Int32.reduceLT, Int32.reduceLE, Int32.reduceAdd, Int32.reduceSub, z_set, z_set2, z_kil, List.set_cons_zero, List.set_cons_succ, List.take_succ_cons, List.take_zero, List.drop_succ_cons, List.drop_zero, List.reverse_cons, List.reverse_nil, List.nil_append, List.cons_append, List.getD_cons_succ, List.getD_cons_zero, List.getD_nil, List.length_cons, List.length_nil, List.map_cons, List.map_nil, List.sum_cons, List.sum_nil, Nat.reduceAdd, Nat.reduceLeDiff, Value.category, Option.toList, true_or, or_true, z_ua, ↓reduceIte, Nat.reduceEqDiff, eq_self, not_true_eq_false, not_false_eq_true, false_implies, true_implies, Classical.not_not, Nat.le_refl, Nat.zero_le, nI_1]
      try dsimp only
      exact (c198_in hS hj hd hm hs hst hf kk k (i + 1) I2 (by omega) ho2 (fun g h => (hg2 g h).trans (hg g h)) hr2).weak (by simp only [z_le]; simp)
    refine zW_ok hj B198_19 19 _ _ _ _ _ b198_19 ?_
    simp only [B198_19, zW, z_wp1, z_ld, z_f0, z_f1, z_f2, z_f3, List.getElem?_cons_zero, List.getElem?_cons_succ, true_and, and_true, Int32.reduceOfInt, z_i10, z_i01, Int32.reduceLT, Int32.reduceLE, Int32.reduceAdd, Int32.reduceSub, z_set, z_set2, z_kil, List.set_cons_zero, List.set_cons_succ, List.take_succ_cons, List.take_zero, List.drop_succ_cons, List.drop_zero, List.reverse_cons, List.reverse_nil, List.nil_append, List.cons_append, List.getD_cons_succ, List.getD_cons_zero, List.getD_nil, List.length_cons, List.length_nil, List.map_cons, List.map_nil, List.sum_cons, List.sum_nil, Nat.reduceAdd, Nat.reduceLeDiff, Value.category, Option.toList, true_or, or_true, z_ua, ↓reduceIte, Nat.reduceEqDiff, eq_self, not_true_eq_false, not_false_eq_true, false_implies, true_implies, Classical.not_not, Nat.le_refl, Nat.zero_le, sK71 hS, s5, g71]
    try dsimp only
    refine ⟨fun hc => absurd hc (nI_ge (by omega) (by omega)), fun _ => ?_⟩
    refine z_callQ (c196s (I := I') hS hst' (show i < N by omega) (nI f) (I 71 8) (I 71 9)) (by omega) (by omega) (by omega) (Nat.le_of_ble_eq_true rfl) ?_
    rintro r h' ⟨rfl, I2, rfl, ho2⟩
    rw [eT]
    have ho3 : m_off6 I I2 := fun q a b d => (ho2 q a b).trans (ho q a b d)
    have h86 : I2 86 = I' 86 := ho2 86 (by decide) (by decide)
    have yes : (mT I c tr (I 71 8) (I 71 9) i (nI f) = 1 ∨ (mT I c tr (I 71 8) (I 71 9) i (nI f) = 2 ∧ mode = 1)) → zV X 60 [some (.ref 71), some (.int mode), some (.int (nI f)), some (.int (nI i)), some (.int (mT I c tr (I 71 8) (I 71 9) i (nI f)))] [] (n, K, L, I2, J, G) 0 0 := by
      intro hy
      have := go (z_u I2 86 f (I2 86 f ||| 1 <<< (nI i &&& 31))) (some (.int (mT I c tr (I 71 8) (I 71 9) i (nI f)))) (fun q a b d => by rw [z_u_ne d]; exact ho3 q a b d) (fun g h => by simp [z_u, Nat.ne_of_lt h, h86]) (by simp only [z_u_at, if_true]; rw [h86, hr, m_row, if_pos hy])
      refine zW_ok hj B198_60 60 _ _ _ _ _ b198_60 ?_
      simp only [B198_60, zW, z_wp1, z_ld, z_f0, z_f1, z_f2, z_f3, List.getElem?_cons_zero, List.getElem?_cons_succ, true_and, and_true, Int32.reduceOfInt, z_i10, z_i01, Int32.reduceLT, Int32.reduceLE, Int32.reduceAdd, Int32.reduceSub, z_set, z_set2, z_kil, List.set_cons_zero, List.set_cons_succ, List.take_succ_cons, List.take_zero, List.drop_succ_cons, List.drop_zero, List.reverse_cons, List.reverse_nil, List.nil_append, List.cons_append, List.getD_cons_succ, List.getD_cons_zero, List.getD_nil, List.length_cons, List.length_nil, List.map_cons, List.map_nil, List.sum_cons, List.sum_nil, Nat.reduceAdd, Nat.reduceLeDiff, Value.category, Option.toList, true_or, or_true, z_ua, ↓reduceIte, Nat.reduceEqDiff, eq_self, not_true_eq_false, not_false_eq_true, false_implies, true_implies, Classical.not_not, Nat.le_refl, Nat.zero_le, sK71 hS, sG71_32 hS, sK86 hS, sL86 hS, ef, vf]
      try dsimp only
      exact this
    have nono : ¬ (mT I c tr (I 71 8) (I 71 9) i (nI f) = 1 ∨ (mT I c tr (I 71 8) (I 71 9) i (nI f) = 2 ∧ mode = 1)) → zV X 76 [some (.ref 71), some (.int mode), some (.int (nI f)), some (.int (nI i)), some (.int (mT I c tr (I 71 8) (I 71 9) i (nI f)))] [] (n, K, L, I2, J, G) 0 0 := fun hn =>
      go I2 _ ho3 (fun g h => by rw [h86]) (by rw [h86, hr, m_row, if_neg hn])
    simp only [zW, z_wp1, z_ld, z_f0, z_f1, z_f2, z_f3, List.getElem?_cons_zero, List.getElem?_cons_succ, true_and, and_true, Int32.reduceOfInt, z_i10, z_i01, Int32.reduceLT, Int32.reduceLE, Int32.reduceAdd, Int32.reduceSub, z_set, z_set2, z_kil, List.set_cons_zero, List.set_cons_succ, List.take_succ_cons, List.take_zero, List.drop_succ_cons, List.drop_zero, List.reverse_cons, List.reverse_nil, List.nil_append, List.cons_append, List.getD_cons_succ, List.getD_cons_zero, List.getD_nil, List.length_cons, List.length_nil, List.map_cons, List.map_nil, List.sum_cons, List.sum_nil, Nat.reduceAdd, Nat.reduceLeDiff, Value.category, Option.toList, true_or, or_true, z_ua, ↓reduceIte, Nat.reduceEqDiff, eq_self, not_true_eq_false, not_false_eq_true, false_implies, true_implies, Classical.not_not, Nat.le_refl, Nat.zero_le]
    try dsimp only
    refine ⟨fun h1 => yes (Or.inl h1), fun h1 => ⟨fun h2 => nono (fun z => z.elim h1 (fun z => h2 z.1)), fun h2 => ⟨fun h3 => nono (fun z => z.elim h1 (fun z => h3 z.2)), fun h3 => yes (Or.inr ⟨h2, h3⟩)⟩⟩⟩
theorem c198_out {X : zX} (hS : SS K L G) (hj : X.2.1 = 198) (hd : X.2.2.1 = 3) (hm : X.2.2.2.1 = 0) (hs : X.2.2.2.2.1 = 0) (hst : m_st I c F N tr) {mode : Int32} (hQ : ∀ r h', (r = none ∧ ∃ I', h' = (n, K, L, I', J, G) ∧ m_off6 I I' ∧ ∀ g, g < F → I' 86 g = m_row (mT I c tr (I 71 8) (I 71 9)) mode (nI g) N) → X.2.2.2.2.2.2 r h') : ∀ (k f : Nat) (I' : Nat → Nat → Int32), f + k = F → m_off6 I I' → (∀ g, g < f → I' 86 g = m_row (mT I c tr (I 71 8) (I 71 9)) mode (nI g) N) →
      zV X 2 [some (.ref 71), some (.int mode), some (.int (nI f)), none, none] [] (n, K, L, I', J, G) 0 0
  | 0, f, I', hf, ho, hg => by
    have e : f = F := by omega
    subst e
    obtain ⟨s1, s2, s3, s4, s5, s6, s7⟩ := ho.sm.st hst
    refine zW_ok hj B198_2 2 _ _ _ _ _ b198_2 ?_
    simp only [B198_2, zW, z_wp1, z_ld, z_f0, z_f1, z_f2, z_f3, List.getElem?_cons_zero, List.getElem?_cons_succ, true_and, and_true, Int32.reduceOfInt, z_i10, z_i01, Int32.reduceLT, Int32.reduceLE, Int32.reduceAdd, Int32.reduceSub, z_set, z_set2, z_kil, List.set_cons_zero, List.set_cons_succ, List.take_succ_cons, List.take_zero, List.drop_succ_cons, List.drop_zero, List.reverse_cons, List.reverse_nil, List.nil_append, List.cons_append, List.getD_cons_succ, List.getD_cons_zero, List.getD_nil, List.length_cons, List.length_nil, List.map_cons, List.map_nil, List.sum_cons, List.sum_nil, Nat.reduceAdd, Nat.reduceLeDiff, Value.category, Option.toList, true_or, or_true, z_ua, ↓reduceIte, Nat.reduceEqDiff, eq_self, not_true_eq_false, not_false_eq_true, false_implies, true_implies, Classical.not_not, Nat.le_refl, Nat.zero_le, sK71 hS, s3]
    try dsimp only
    refine ⟨fun _ => ?_, fun hc => absurd (nI_le (Nat.le_refl _) (by omega)) hc⟩
    refine zW_ok hj B198_88 88 _ _ _ _ _ b198_88 ?_
    simp only [B198_88, zW, z_wp1, z_ld, z_f0, z_f1, z_f2, z_f3, List.getElem?_cons_zero, List.getElem?_cons_succ, true_and, and_true, Int32.reduceOfInt, z_i10, z_i01, Int32.reduceLT, Int32.reduceLE, Int32.reduceAdd, Int32.reduceSub, z_set, z_set2, z_kil, List.set_cons_zero, List.set_cons_succ, List.take_succ_cons, List.take_zero, List.drop_succ_cons, List.drop_zero, List.reverse_cons, List.reverse_nil, List.nil_append, List.cons_append, List.getD_cons_succ, List.getD_cons_zero, List.getD_nil, List.length_cons, List.length_nil, List.map_cons, List.map_nil, List.sum_cons, List.sum_nil, Nat.reduceAdd, Nat.reduceLeDiff, Value.category, Option.toList, true_or, or_true, z_ua, ↓reduceIte, Nat.reduceEqDiff, eq_self, not_true_eq_false, not_false_eq_true, false_implies, true_implies, Classical.not_not, Nat.le_refl, Nat.zero_le]
    try dsimp only
    exact hQ _ _ ⟨rfl, I', rfl, ho, hg⟩
  | k + 1, f, I', hf, ho, hg => by
    obtain ⟨s1, s2, s3, s4, s5, s6, s7⟩ := ho.sm.st hst
    have ef : (nI f).toNatClampNeg = f := nI_clamp (by omega)
    have vf : vp_in (nI f) 16 := vp_in_nI (by omega) (by omega)
    have inn := c198_in (n := n) (K := K) (L := L) (J := J) (G := G) hS hj hd hm hs hst (mode := mode) (f := f) (by omega) (fun I2 ho2 hg2 hr2 => by
      refine zW_ok hj B198_82 82 _ _ _ _ _ b198_82 ?_
      simp only [B198_82, zW, z_wp1, z_ld, z_f0, z_f1, z_f2, z_f3, List.getElem?_cons_zero, List.getElem?_cons_succ, true_and, and_true, Int32.reduceOfInt, z_i10, z_i01, Int32.reduceLT, Int32.reduceLE, Int32.reduceAdd, Int32.reduceSub, z_set, z_set2, z_kil, List.set_cons_zero, List.set_cons_succ, List.take_succ_cons, List.take_zero, List.drop_succ_cons, List.drop_zero, List.reverse_cons, List.reverse_nil, List.nil_append, List.cons_append, List.getD_cons_succ, List.getD_cons_zero, List.getD_nil, List.length_cons, List.length_nil, List.map_cons, List.map_nil, List.sum_cons, List.sum_nil, Nat.reduceAdd, Nat.reduceLeDiff, Value.category, Option.toList, true_or, or_true, z_ua, ↓reduceIte, Nat.reduceEqDiff, eq_self, not_true_eq_false, not_false_eq_true, false_implies, true_implies, Classical.not_not, Nat.le_refl, Nat.zero_le, nI_1]
      try dsimp only
      exact (c198_out hS hj hd hm hs hst hQ k (f + 1) I2 (by omega) ho2 (fun g h => by
        rcases Nat.lt_or_ge g f with q | q
        · exact hg2 g q
        · rw [show g = f by omega]; exact hr2)).weak (by simp only [z_le]; simp)) N 0 (z_u I' 86 f 0) (by omega) (fun q a b d => by rw [z_u_ne d]; exact ho q a b d) (fun g h => by rw [← hg g h]; simp [z_u, Nat.ne_of_lt h]) (by simp [z_u, m_row])
    refine zW_ok hj B198_2 2 _ _ _ _ _ b198_2 ?_
    simp only [B198_2, zW, z_wp1, z_ld, z_f0, z_f1, z_f2, z_f3, List.getElem?_cons_zero, List.getElem?_cons_succ, true_and, and_true, Int32.reduceOfInt, z_i10, z_i01, Int32.reduceLT, Int32.reduceLE, Int32.reduceAdd, Int32.reduceSub, z_set, z_set2, z_kil, List.set_cons_zero, List.set_cons_succ, List.take_succ_cons, List.take_zero, List.drop_succ_cons, List.drop_zero, List.reverse_cons, List.reverse_nil, List.nil_append, List.cons_append, List.getD_cons_succ, List.getD_cons_zero, List.getD_nil, List.length_cons, List.length_nil, List.map_cons, List.map_nil, List.sum_cons, List.sum_nil, Nat.reduceAdd, Nat.reduceLeDiff, Value.category, Option.toList, true_or, or_true, z_ua, ↓reduceIte, Nat.reduceEqDiff, eq_self, not_true_eq_false, not_false_eq_true, false_implies, true_implies, Classical.not_not, Nat.le_refl, Nat.zero_le, sK71 hS, s3, sG71_32 hS, sK86 hS, sL86 hS, ef, vf]
    try dsimp only
    refine ⟨fun hc => absurd hc (nI_ge (by omega) (by omega)), fun _ => inn⟩
/-- findRows -/
theorem c198 (hS : SS K L G) (hst : m_st I c F N tr) (mode : Int32) : z_Ctr l 3 198 [.ref 71, .int mode] (n, K, L, I, J, G) 0 0 (fun r h' => r = none ∧ ∃ I', h' = (n, K, L, I', J, G) ∧ m_off6 I I' ∧ ∀ g, g < F → I' 86 g = m_row (mT I c tr (I 71 8) (I 71 9)) mode (nI g) N) := by
  refine z_ctr (by decide) (by decide +kernel) (Nat.le_of_ble_eq_true rfl) (by decide +kernel) (fun X hl hj hd hm hs hsc hQ => ?_)
  show zV X 0 [some (.ref 71), some (.int mode), none, none, none] [] _ 0 0
  refine zW_ok hj B198_0 0 _ _ _ _ _ b198_0 ?_
  simp only [B198_0, zW, z_wp1, z_ld, z_f0, z_f1, z_f2, z_f3, List.getElem?_cons_zero, List.getElem?_cons_succ, true_and, and_true, Int32.reduceOfInt, z_i10, z_i01, Int32.reduceLT, Int32.reduceLE, Int32.reduceAdd, Int32.reduceSub, z_set, z_set2, z_kil, List.set_cons_zero, List.set_cons_succ, List.take_succ_cons, List.take_zero, List.drop_succ_cons, List.drop_zero, List.reverse_cons, List.reverse_nil, List.nil_append, List.cons_append, List.getD_cons_succ, List.getD_cons_zero, List.getD_nil, List.length_cons, List.length_nil, List.map_cons, List.map_nil, List.sum_cons, List.sum_nil, Nat.reduceAdd, Nat.reduceLeDiff, Value.category, Option.toList, true_or, or_true, z_ua, ↓reduceIte, Nat.reduceEqDiff, eq_self, not_true_eq_false, not_false_eq_true, false_implies, true_implies, Classical.not_not, Nat.le_refl, Nat.zero_le]
  try dsimp only
  exact c198_out hS hj hd hm hs hst hQ F 0 I (by omega) (fun _ _ _ _ => rfl) (fun g h => absurd h (by omega))
end M8
