/-! The model: closed sets -/
/-- the sets, in THE ORDER, that stay as they are under cl: among the first v -/
def m_cl (S : Nat → Int32) (cl : Int32 → Int32) : Nat → List Int32
  | 0 => []
  | v + 1 => if cl (S v) = S v then m_cl S cl v ++ [S v] else m_cl S cl v
theorem m_cl_len (S : Nat → Int32) (cl : Int32 → Int32) : ∀ v, (m_cl S cl v).length ≤ v
  | 0 => by simp [m_cl]
  | v + 1 => by
    have := m_cl_len S cl v
    rw [m_cl]
    split
    · simp; omega
    · omega
/-- the v-th set of N marks -/
abbrev mS (N v : Nat) : Int32 := m_setAt (nI v) (nI N) N
/-- a row of an int array holds a list -/
def m_lst (row : Nat → Int32) (L : List Int32) : Prop := ∀ t x, L[t]? = some x → row t = x
theorem m_lst_add {row row' : Nat → Int32} {L : List Int32} {x : Int32} (h : m_lst row L) (h1 : row' L.length = x) (h2 : ∀ t, t < L.length → row' t = row t) : m_lst row' (L ++ [x]) := by
  intro t y hy
  by_cases hl : t < L.length
  · rw [List.getElem?_append_left hl] at hy
    rw [h2 t hl]
    exact h t y hy
  · rw [List.getElem?_append_right (by omega)] at hy
    have hz : t - L.length < 1 := (List.getElem?_eq_some_iff.mp hy).1
    have e : t = L.length := by omega
    subst e
    rw [Nat.sub_self] at hy
    cases hy
    exact h1
theorem z_pow {N : Nat} (h : N ≤ 12) : 2 ^ N ≤ 4096 := Nat.pow_le_pow_right (by decide) h (n := 2)
theorem z_pow16 {N : Nat} (h : N ≤ 16) : 2 ^ N ≤ 65536 := Nat.pow_le_pow_right (by decide) h (n := 2)
section M10
variable {l : Launch} {n : Nat} {K L : Nat → Nat} {I : Nat → Nat → Int32} {J : Nat → Nat → Int64} {G : Nat → Nat → Value} {c F N : Nat} {tr : Nat → (Int32 → Int32) → Int32}
/-- but for scratch: the stack, the rows, the closed sets and their number -/
def m_off7 (I I' : Nat → Nat → Int32) : Prop := (∀ q, q ≠ 84 → q ≠ 85 → q ≠ 86 → q ≠ 87 → q ≠ 71 → I' q = I q) ∧ ∀ k, k ≠ 34 → I' 71 k = I 71 k
theorem m_off7.sm {I I' : Nat → Nat → Int32} (h : m_off7 I I') : m_sm I I' := ⟨h.2 _ (by decide), h.2 _ (by decide), h.2 _ (by decide), fun q a b => h.1 q (by omega) (by omega) (by omega) (by omega) (by omega), fun q a b => h.1 q (by omega) (by omega) (by omega) (by omega) (by omega)⟩
theorem m_off6.o7 {I I' : Nat → Nat → Int32} (h : m_off6 I I') : m_off7 I I' := ⟨fun q a b d _ _ => h q a b d, fun k _ => by rw [h 71 (by decide) (by decide) (by decide)]⟩
theorem c207_loop {X : zX} (hS : SS K L G) (hj : X.2.1 = 207) (hd : X.2.2.1 = 4) (hm : X.2.2.2.1 = 0) (hs : X.2.2.2.2.1 = 0) {I0 : Nat → Nat → Int32} (hst : m_st I0 c F N tr) {mode : Int32} {row : Nat → Int32} (cl : Int32 → Int32) (hcl : ∀ s, cl s = m_clo row s (nI (2 ^ N) - 1) F)
    (hQ : ∀ r h', (r = none ∧ ∃ I', h' = (n, K, L, I', J, G) ∧ m_off7 I0 I' ∧ I' 71 34 = nI (m_cl (mS N) cl (2 ^ N)).length ∧ m_lst (I' 87) (m_cl (mS N) cl (2 ^ N))) → X.2.2.2.2.2.2 r h') : ∀ (k v : Nat) (I' : Nat → Nat → Int32), v + k = 2 ^ N → m_off7 I0 I' → (∀ g, g < F → I' 86 g = row g) → I' 71 34 = nI (m_cl (mS N) cl v).length → m_lst (I' 87) (m_cl (mS N) cl v) →
      zV X 12 [some (.ref 71), some (.int mode), some (.int (nI v)), none] [] (n, K, L, I', J, G) 0 0
  | 0, v, I', hv, ho, hr, hm1, hm2 => by
    have e : v = 2 ^ N := by omega
    subst e
    obtain ⟨s1, s2, s3, s4, s5, s6, s7⟩ := ho.sm.st hst
    have hp := z_pow s6
    refine zW_ok hj B207_12 12 _ _ _ _ _ b207_12 ?_
    simp only [B207_12, zW, z_wp1, z_ld, z_f0, z_f1, z_f2, z_f3, List.getElem?_cons_zero, List.getElem?_cons_succ, true_and, and_true, Int32.reduceOfInt, z_i10, z_i01, Int32.reduceLT, Int32.reduceLE, Int32.reduceAdd, Int32.reduceSub, z_set, z_set2, z_kil, List.set_cons_zero, List.set_cons_succ, List.take_succ_cons, List.take_zero, List.drop_succ_cons, List.drop_zero, List.reverse_cons, List.reverse_nil, List.nil_append, List.cons_append, List.getD_cons_succ, List.getD_cons_zero, List.getD_nil, List.length_cons, List.length_nil, List.map_cons, List.map_nil, List.sum_cons, List.sum_nil, Nat.reduceAdd, Nat.reduceLeDiff, Value.category, Option.toList, true_or, or_true, z_ua, ↓reduceIte, Nat.reduceEqDiff, eq_self, not_true_eq_false, not_false_eq_true, false_implies, true_implies, Classical.not_not, Nat.le_refl, Nat.zero_le, sK71 hS, s5, z_shl1 (show N < 17 by omega)]
    try dsimp only
    refine ⟨fun _ => ?_, fun hc => absurd (nI_le (Nat.le_refl _) (by omega)) hc⟩
    refine zW_ok hj B207_70 70 _ _ _ _ _ b207_70 ?_
    simp only [B207_70, zW, z_wp1, z_ld, z_f0, z_f1, z_f2, z_f3, List.getElem?_cons_zero, List.getElem?_cons_succ, true_and, and_true, Int32.reduceOfInt, z_i10, z_i01, Int32.reduceLT, Int32.reduceLE, Int32.reduceAdd, Int32.reduceSub, z_set, z_set2, z_kil, List.set_cons_zero, List.set_cons_succ, List.take_succ_cons, List.take_zero, List.drop_succ_cons, List.drop_zero, List.reverse_cons, List.reverse_nil, List.nil_append, List.cons_append, List.getD_cons_succ, List.getD_cons_zero, List.getD_nil, List.length_cons, List.length_nil, List.map_cons, List.map_nil, List.sum_cons, List.sum_nil, Nat.reduceAdd, Nat.reduceLeDiff, Value.category, Option.toList, true_or, or_true, z_ua, ↓reduceIte, Nat.reduceEqDiff, eq_self, not_true_eq_false, not_false_eq_true, false_implies, true_implies, Classical.not_not, Nat.le_refl, Nat.zero_le]
    try dsimp only
    exact hQ _ _ ⟨rfl, I', rfl, ho, hm1, hm2⟩
  | k + 1, v, I', hv, ho, hr, hm1, hm2 => by
    have hst' := ho.sm.st hst
    obtain ⟨s1, s2, s3, s4, s5, s6, s7⟩ := id hst'
    have hp := z_pow s6
    have hl := m_cl_len (mS N) cl v
    have el : (nI (m_cl (mS N) cl v).length).toNatClampNeg = (m_cl (mS N) cl v).length := nI_clamp (by omega)
    have vl : vp_in (nI (m_cl (mS N) cl v).length) 4096 := vp_in_nI (by omega) (by omega)
    have go : ∀ (I2 : Nat → Nat → Int32) (x : Option Value), m_off7 I0 I2 → (∀ g, g < F → I2 86 g = row g) → I2 71 34 = nI (m_cl (mS N) cl (v + 1)).length → m_lst (I2 87) (m_cl (mS N) cl (v + 1)) → zV X 64 [some (.ref 71), some (.int mode), some (.int (nI v)), x] [] (n, K, L, I2, J, G) 0 0 := by
      intro I2 x h1 h2 h3 h4
      refine zW_ok hj B207_64 64 _ _ _ _ _ b207_64 ?_
      simp only [B207_64, zW, z_wp1, z_ld, z_f0, z_f1, z_f2, z_f3, List.getElem?_cons_zero, List.getElem?_cons_succ, true_and, and_true, Int32.reduceOfInt, z_i10, z_i01, Int32.reduceLT, Int32.reduceLE, Int32.reduceAdd, Int32.reduceSub, z_set, z_set2, z_kil, List.set_cons_zero, List.set_cons_succ, List.take_succ_cons, List.take_zero, List.drop_succ_cons, List.drop_zero, List.reverse_cons, List.reverse_nil, List.nil_append, List.cons_append, List.getD_cons_succ, List.getD_cons_zero, List.getD_nil, List.length_cons, List.length_nil, List.map_cons, List.map_nil, List.sum_cons, List.sum_nil, Nat.reduceAdd, Nat.reduceLeDiff, Value.category, Option.toList, true_or, or_true, z_ua, ↓reduceIte, Nat.reduceEqDiff, eq_self, not_true_eq_false, not_false_eq_true, false_implies, true_implies, Classical.not_not, Nat.le_refl, Nat.zero_le, nI_1]
      try dsimp only
      exact (c207_loop (mode := mode) hS hj hd hm hs hst cl hcl hQ k (v + 1) I2 (by omega) h1 h2 h3 h4).weak (by simp only [z_le]; simp)
    refine zW_ok hj B207_12 12 _ _ _ _ _ b207_12 ?_
    simp only [B207_12, zW, z_wp1, z_ld, z_f0, z_f1, z_f2, z_f3, List.getElem?_cons_zero, List.getElem?_cons_succ, true_and, and_true, Int32.reduceOfInt, z_i10, z_i01, Int32.reduceLT, Int32.reduceLE, Int32.reduceAdd, Int32.reduceSub, z_set, z_set2, z_kil, List.set_cons_zero, List.set_cons_succ, List.take_succ_cons, List.take_zero, List.drop_succ_cons, List.drop_zero, List.reverse_cons, List.reverse_nil, List.nil_append, List.cons_append, List.getD_cons_succ, List.getD_cons_zero, List.getD_nil, List.length_cons, List.length_nil, List.map_cons, List.map_nil, List.sum_cons, List.sum_nil, Nat.reduceAdd, Nat.reduceLeDiff, Value.category, Option.toList, true_or, or_true, z_ua, ↓reduceIte, Nat.reduceEqDiff, eq_self, not_true_eq_false, not_false_eq_true, false_implies, true_implies, Classical.not_not, Nat.le_refl, Nat.zero_le, sK71 hS, s5, z_shl1 (show N < 17 by omega)]
    try dsimp only
    refine ⟨fun hc => absurd hc (nI_ge (by omega) (by omega)), fun _ => ?_⟩
    refine z_callD (c206 (N := N) (by omega) (nI v)) (by omega) (by omega) (by omega) (Nat.le_of_ble_eq_true rfl) ?_
    try simp only [zW, z_wp1, z_ld, z_f0, z_f1, z_f2, z_f3, List.getElem?_cons_zero, List.getElem?_cons_succ, true_and, and_true, Int32.reduceOfInt, z_i10, z_i01, Int32.reduceLT, Int32.reduceLE, Int32.reduceAdd, Int32.reduceSub, z_set, z_set2, z_kil, List.set_cons_zero, List.set_cons_succ, List.take_succ_cons, List.take_zero, List.drop_succ_cons, List.drop_zero, List.reverse_cons, List.reverse_nil, List.nil_append, List.cons_append, List.getD_cons_succ, List.getD_cons_zero, List.getD_nil, List.length_cons, List.length_nil, List.map_cons, List.map_nil, List.sum_cons, List.sum_nil, Nat.reduceAdd, Nat.reduceLeDiff, Value.category, Option.toList, true_or, or_true, z_ua, ↓reduceIte, Nat.reduceEqDiff, eq_self, not_true_eq_false, not_false_eq_true, false_implies, true_implies, Classical.not_not, Nat.le_refl, Nat.zero_le, sK71 hS]
    try dsimp only
    refine z_callD (c204n hS hst' row hr (mS N v)) (by omega) (by omega) (by omega) (Nat.le_of_ble_eq_true rfl) ?_
    try simp only [zW, z_wp1, z_ld, z_f0, z_f1, z_f2, z_f3, List.getElem?_cons_zero, List.getElem?_cons_succ, true_and, and_true, Int32.reduceOfInt, z_i10, z_i01, Int32.reduceLT, Int32.reduceLE, Int32.reduceAdd, Int32.reduceSub, z_set, z_set2, z_kil, List.set_cons_zero, List.set_cons_succ, List.take_succ_cons, List.take_zero, List.drop_succ_cons, List.drop_zero, List.reverse_cons, List.reverse_nil, List.nil_append, List.cons_append, List.getD_cons_succ, List.getD_cons_zero, List.getD_nil, List.length_cons, List.length_nil, List.map_cons, List.map_nil, List.sum_cons, List.sum_nil, Nat.reduceAdd, Nat.reduceLeDiff, Value.category, Option.toList, true_or, or_true, z_ua, ↓reduceIte, Nat.reduceEqDiff, eq_self, not_true_eq_false, not_false_eq_true, false_implies, true_implies, Classical.not_not, Nat.le_refl, Nat.zero_le]
    try dsimp only
    rw [← hcl]
    refine ⟨fun h1 => ?_, fun h1 => ?_⟩
    · have := go (z_u (z_u I' 87 (m_cl (mS N) cl v).length (mS N v)) 71 34 (nI ((m_cl (mS N) cl v).length + 1))) (some (.int (mS N v)))
        ⟨fun q a b d e f => by rw [z_u_ne f, z_u_ne e]; exact ho.1 q a b d e f, fun k hk => by simp only [z_u, if_neg hk]; simp only [ite_true]; exact ho.2 k hk⟩ (fun g hg => by rw [z_u_ne (by decide), z_u_ne (by decide)]; exact hr g hg)
        (by rw [m_cl, if_pos h1]; simp [z_u]) (by
          rw [m_cl, if_pos h1]
          exact m_lst_add hm2 (by simp [z_u]) (fun t ht => by simp [z_u, Nat.ne_of_lt ht]))
      refine zW_ok hj B207_44 44 _ _ _ _ _ b207_44 ?_
      simp only [B207_44, zW, z_wp1, z_ld, z_f0, z_f1, z_f2, z_f3, List.getElem?_cons_zero, List.getElem?_cons_succ, true_and, and_true, Int32.reduceOfInt, z_i10, z_i01, Int32.reduceLT, Int32.reduceLE, Int32.reduceAdd, Int32.reduceSub, z_set, z_set2, z_kil, List.set_cons_zero, List.set_cons_succ, List.take_succ_cons, List.take_zero, List.drop_succ_cons, List.drop_zero, List.reverse_cons, List.reverse_nil, List.nil_append, List.cons_append, List.getD_cons_succ, List.getD_cons_zero, List.getD_nil, List.length_cons, List.length_nil, List.map_cons, List.map_nil, List.sum_cons, List.sum_nil, Nat.reduceAdd, Nat.reduceLeDiff, Value.category, Option.toList, true_or, or_true, z_ua, ↓reduceIte, Nat.reduceEqDiff, eq_self, not_true_eq_false, not_false_eq_true, false_implies, true_implies, Classical.not_not, Nat.le_refl, Nat.zero_le, sK71 hS, sG71_33 hS, sK87 hS, sL87 hS, hm1, el, vl, nI_1]
      try dsimp only
      exact this
    · exact go I' _ ho hr (by rw [m_cl, if_neg h1]; exact hm1) (by rw [m_cl, if_neg h1]; exact hm2)
/-- findClosed -/
theorem c207 (hS : SS K L G) (hst : m_st I c F N tr) (mode : Int32) : z_Ctr l 4 207 [.ref 71, .int mode] (n, K, L, I, J, G) 0 0 (fun r h' => r = none ∧ ∃ I', h' = (n, K, L, I', J, G) ∧ m_off7 I I' ∧ I' 71 34 = nI (m_cl (mS N) (mC I c F N tr mode) (2 ^ N)).length ∧ m_lst (I' 87) (m_cl (mS N) (mC I c F N tr mode) (2 ^ N))) := by
  refine z_ctr (by decide) (by decide +kernel) (Nat.le_of_ble_eq_true rfl) (by decide +kernel) (fun X hl hj hd hm hs hsc hQ => ?_)
  show zV X 0 [some (.ref 71), some (.int mode), none, none] [] _ 0 0
  refine zW_ok hj B207_0 0 _ _ _ _ _ b207_0 ?_
  simp only [B207_0, zW, z_wp1, z_ld, z_f0, z_f1, z_f2, z_f3, List.getElem?_cons_zero, List.getElem?_cons_succ, true_and, and_true, Int32.reduceOfInt, z_i10, z_i01, Int32.reduceLT, Int32.reduceLE, Int32.reduceAdd, Int32.reduceSub, z_set, z_set2, z_kil, List.set_cons_zero, List.set_cons_succ, List.take_succ_cons, List.take_zero, List.drop_succ_cons, List.drop_zero, List.reverse_cons, List.reverse_nil, List.nil_append, List.cons_append, List.getD_cons_succ, List.getD_cons_zero, List.getD_nil, List.length_cons, List.length_nil, List.map_cons, List.map_nil, List.sum_cons, List.sum_nil, Nat.reduceAdd, Nat.reduceLeDiff, Value.category, Option.toList, true_or, or_true, z_ua, ↓reduceIte, Nat.reduceEqDiff, eq_self, not_true_eq_false, not_false_eq_true, false_implies, true_implies, Classical.not_not, Nat.le_refl, Nat.zero_le, sK71 hS]
  try dsimp only
  refine z_callQ (c198 hS hst mode) (by omega) (by omega) (by omega) (Nat.le_of_ble_eq_true rfl) ?_
  rintro r h' ⟨rfl, I', rfl, ho, hr⟩
  simp only [zW, z_wp1, z_ld, z_f0, z_f1, z_f2, z_f3, List.getElem?_cons_zero, List.getElem?_cons_succ, true_and, and_true, Int32.reduceOfInt, z_i10, z_i01, Int32.reduceLT, Int32.reduceLE, Int32.reduceAdd, Int32.reduceSub, z_set, z_set2, z_kil, List.set_cons_zero, List.set_cons_succ, List.take_succ_cons, List.take_zero, List.drop_succ_cons, List.drop_zero, List.reverse_cons, List.reverse_nil, List.nil_append, List.cons_append, List.getD_cons_succ, List.getD_cons_zero, List.getD_nil, List.length_cons, List.length_nil, List.map_cons, List.map_nil, List.sum_cons, List.sum_nil, Nat.reduceAdd, Nat.reduceLeDiff, Value.category, Option.toList, true_or, or_true, z_ua, ↓reduceIte, Nat.reduceEqDiff, eq_self, not_true_eq_false, not_false_eq_true, false_implies, true_implies, Classical.not_not, Nat.le_refl, Nat.zero_le, sK71 hS]
  try dsimp only
  refine c207_loop hS hj hd hm hs hst (mC I c F N tr mode) (row := mR I c N tr mode) (fun s => rfl) hQ (2 ^ N) 0 (z_u I' 71 34 0) (by omega) ⟨fun q a b d e f => by rw [z_u_ne f]; exact ho q a b d, fun k hk => by simp only [z_u, if_neg hk]; simp only [ite_true]; rw [ho 71 (by decide) (by decide) (by decide)]⟩ (fun g hg => by rw [z_u_ne (by decide)]; exact hr g hg) (by simp [z_u, m_cl]; rfl) (fun t x hx => by simp [m_cl] at hx)
/-- concepts -/
theorem c208a (hS : SS K L G) (hst : m_st I c F N tr) {mode : Int32} (hmd : mode = 0 ∨ mode = 1) : z_Ctr l 5 208 [.ref 71, .int mode] (n, K, L, I, J, G) 0 0 (fun r h' => r = some (.int (nI (m_cl (mS N) (mC I c F N tr mode) (2 ^ N)).length)) ∧ ∃ I', h' = (n, K, L, I', J, G) ∧ m_off7 (m_t I) I') := by
  have hst' := (m_sm.t I).st hst
  refine z_ctr (by decide) (by decide +kernel) (Nat.le_of_ble_eq_true rfl) (by decide +kernel) (fun X hl hj hd hm hs hsc hQ => ?_)
  show zV X 0 [some (.ref 71), some (.int mode)] [] _ 0 0
  refine zW_ok hj B208_0 0 _ _ _ _ _ b208_0 ?_
  simp only [B208_0, zW, z_wp1, z_ld, z_f0, z_f1, z_f2, z_f3, List.getElem?_cons_zero, List.getElem?_cons_succ, true_and, and_true, Int32.reduceOfInt, z_i10, z_i01, Int32.reduceLT, Int32.reduceLE, Int32.reduceAdd, Int32.reduceSub, z_set, z_set2, z_kil, List.set_cons_zero, List.set_cons_succ, List.take_succ_cons, List.take_zero, List.drop_succ_cons, List.drop_zero, List.reverse_cons, List.reverse_nil, List.nil_append, List.cons_append, List.getD_cons_succ, List.getD_cons_zero, List.getD_nil, List.length_cons, List.length_nil, List.map_cons, List.map_nil, List.sum_cons, List.sum_nil, Nat.reduceAdd, Nat.reduceLeDiff, Value.category, Option.toList, true_or, or_true, z_ua, ↓reduceIte, Nat.reduceEqDiff, eq_self, not_true_eq_false, not_false_eq_true, false_implies, true_implies, Classical.not_not, Nat.le_refl, Nat.zero_le, sK71 hS]
  try dsimp only
  refine z_callD (c199 mode) (by omega) (by omega) (by omega) (Nat.le_of_ble_eq_true rfl) ?_
  try simp only [zW, z_wp1, z_ld, z_f0, z_f1, z_f2, z_f3, List.getElem?_cons_zero, List.getElem?_cons_succ, true_and, and_true, Int32.reduceOfInt, z_i10, z_i01, Int32.reduceLT, Int32.reduceLE, Int32.reduceAdd, Int32.reduceSub, z_set, z_set2, z_kil, List.set_cons_zero, List.set_cons_succ, List.take_succ_cons, List.take_zero, List.drop_succ_cons, List.drop_zero, List.reverse_cons, List.reverse_nil, List.nil_append, List.cons_append, List.getD_cons_succ, List.getD_cons_zero, List.getD_nil, List.length_cons, List.length_nil, List.map_cons, List.map_nil, List.sum_cons, List.sum_nil, Nat.reduceAdd, Nat.reduceLeDiff, Value.category, Option.toList, true_or, or_true, z_ua, ↓reduceIte, Nat.reduceEqDiff, eq_self, not_true_eq_false, not_false_eq_true, false_implies, true_implies, Classical.not_not, Nat.le_refl, Nat.zero_le, sK71 hS, z_b1 hmd]
  try dsimp only
  refine zW_ok hj B208_15 15 _ _ _ _ _ b208_15 ?_
  simp only [B208_15, zW, z_wp1, z_ld, z_f0, z_f1, z_f2, z_f3, List.getElem?_cons_zero, List.getElem?_cons_succ, true_and, and_true, Int32.reduceOfInt, z_i10, z_i01, Int32.reduceLT, Int32.reduceLE, Int32.reduceAdd, Int32.reduceSub, z_set, z_set2, z_kil, List.set_cons_zero, List.set_cons_succ, List.take_succ_cons, List.take_zero, List.drop_succ_cons, List.drop_zero, List.reverse_cons, List.reverse_nil, List.nil_append, List.cons_append, List.getD_cons_succ, List.getD_cons_zero, List.getD_nil, List.length_cons, List.length_nil, List.map_cons, List.map_nil, List.sum_cons, List.sum_nil, Nat.reduceAdd, Nat.reduceLeDiff, Value.category, Option.toList, true_or, or_true, z_ua, ↓reduceIte, Nat.reduceEqDiff, eq_self, not_true_eq_false, not_false_eq_true, false_implies, true_implies, Classical.not_not, Nat.le_refl, Nat.zero_le, sK71 hS]
  try dsimp only
  refine z_callQ (c207 (I := m_t I) hS hst' mode) (by omega) (by omega) (by omega) (Nat.le_of_ble_eq_true rfl) ?_
  rintro r h' ⟨rfl, I', rfl, ho, h1, h2⟩
  simp only [zW, z_wp1, z_ld, z_f0, z_f1, z_f2, z_f3, List.getElem?_cons_zero, List.getElem?_cons_succ, true_and, and_true, Int32.reduceOfInt, z_i10, z_i01, Int32.reduceLT, Int32.reduceLE, Int32.reduceAdd, Int32.reduceSub, z_set, z_set2, z_kil, List.set_cons_zero, List.set_cons_succ, List.take_succ_cons, List.take_zero, List.drop_succ_cons, List.drop_zero, List.reverse_cons, List.reverse_nil, List.nil_append, List.cons_append, List.getD_cons_succ, List.getD_cons_zero, List.getD_nil, List.length_cons, List.length_nil, List.map_cons, List.map_nil, List.sum_cons, List.sum_nil, Nat.reduceAdd, Nat.reduceLeDiff, Value.category, Option.toList, true_or, or_true, z_ua, ↓reduceIte, Nat.reduceEqDiff, eq_self, not_true_eq_false, not_false_eq_true, false_implies, true_implies, Classical.not_not, Nat.le_refl, Nat.zero_le, sK71 hS]
  try dsimp only
  exact hQ _ _ ⟨by rw [h1]; rfl, I', rfl, ho⟩
theorem c208b (hS : SS K L G) {mode : Int32} (hmd : ¬ (mode = 0 ∨ mode = 1)) : z_D l 5 208 [.ref 71, .int mode] (n, K, L, I, J, G) (some (.int (-1))) (n, K, L, m_t I, J, G) := by
  refine z_ctr (by decide) (by decide +kernel) (Nat.le_of_ble_eq_true rfl) (by decide +kernel) (fun X hl hj hd hm hs hsc hQ => ?_)
  show zV X 0 [some (.ref 71), some (.int mode)] [] _ 0 0
  refine zW_ok hj B208_0 0 _ _ _ _ _ b208_0 ?_
  simp only [B208_0, zW, z_wp1, z_ld, z_f0, z_f1, z_f2, z_f3, List.getElem?_cons_zero, List.getElem?_cons_succ, true_and, and_true, Int32.reduceOfInt, z_i10, z_i01, Int32.reduceLT, Int32.reduceLE, Int32.reduceAdd, Int32.reduceSub, z_set, z_set2, z_kil, List.set_cons_zero, List.set_cons_succ, List.take_succ_cons, List.take_zero, List.drop_succ_cons, List.drop_zero, List.reverse_cons, List.reverse_nil, List.nil_append, List.cons_append, List.getD_cons_succ, List.getD_cons_zero, List.getD_nil, List.length_cons, List.length_nil, List.map_cons, List.map_nil, List.sum_cons, List.sum_nil, Nat.reduceAdd, Nat.reduceLeDiff, Value.category, Option.toList, true_or, or_true, z_ua, ↓reduceIte, Nat.reduceEqDiff, eq_self, not_true_eq_false, not_false_eq_true, false_implies, true_implies, Classical.not_not, Nat.le_refl, Nat.zero_le, sK71 hS]
  try dsimp only
  refine z_callD (c199 mode) (by omega) (by omega) (by omega) (Nat.le_of_ble_eq_true rfl) ?_
  try simp only [zW, z_wp1, z_ld, z_f0, z_f1, z_f2, z_f3, List.getElem?_cons_zero, List.getElem?_cons_succ, true_and, and_true, Int32.reduceOfInt, z_i10, z_i01, Int32.reduceLT, Int32.reduceLE, Int32.reduceAdd, Int32.reduceSub, z_set, z_set2, z_kil, List.set_cons_zero, List.set_cons_succ, List.take_succ_cons, List.take_zero, List.drop_succ_cons, List.drop_zero, List.reverse_cons, List.reverse_nil, List.nil_append, List.cons_append, List.getD_cons_succ, List.getD_cons_zero, List.getD_nil, List.length_cons, List.length_nil, List.map_cons, List.map_nil, List.sum_cons, List.sum_nil, Nat.reduceAdd, Nat.reduceLeDiff, Value.category, Option.toList, true_or, or_true, z_ua, ↓reduceIte, Nat.reduceEqDiff, eq_self, not_true_eq_false, not_false_eq_true, false_implies, true_implies, Classical.not_not, Nat.le_refl, Nat.zero_le, sK71 hS, z_b0 hmd]
  try dsimp only
  exact hQ _ _ ⟨rfl, rfl⟩
/-- the i-th of a list, or -1 -/
def m_nth (L : List Int32) (i : Int32) : Int32 := if 0 ≤ i ∧ i < nI L.length then L.getD i.toNatClampNeg 0 else -1
/-- concept -/
theorem c209a (hS : SS K L G) (hst : m_st I c F N tr) {mode : Int32} (hmd : mode = 0 ∨ mode = 1) (i : Int32) : z_Ctr l 5 209 [.ref 71, .int mode, .int i] (n, K, L, I, J, G) 0 0 (fun r h' => r = some (.int (m_nth (m_cl (mS N) (mC I c F N tr mode) (2 ^ N)) i)) ∧ ∃ I', h' = (n, K, L, I', J, G) ∧ m_off7 (m_t I) I') := by
  have hst' := (m_sm.t I).st hst
  have hp := z_pow hst.2.2.2.2.2.1
  refine z_ctr (by decide) (by decide +kernel) (Nat.le_of_ble_eq_true rfl) (by decide +kernel) (fun X hl hj hd hm hs hsc hQ => ?_)
  show zV X 0 [some (.ref 71), some (.int mode), some (.int i)] [] _ 0 0
  refine zW_ok hj B209_0 0 _ _ _ _ _ b209_0 ?_
  simp only [B209_0, zW, z_wp1, z_ld, z_f0, z_f1, z_f2, z_f3, List.getElem?_cons_zero, List.getElem?_cons_succ, true_and, and_true, Int32.reduceOfInt, z_i10, z_i01, Int32.reduceLT, Int32.reduceLE, Int32.reduceAdd, Int32.reduceSub, z_set, z_set2, z_kil, List.set_cons_zero, List.set_cons_succ, List.take_succ_cons, List.take_zero, List.drop_succ_cons, List.drop_zero, List.reverse_cons, List.reverse_nil, List.nil_append, List.cons_append, List.getD_cons_succ, List.getD_cons_zero, List.getD_nil, List.length_cons, List.length_nil, List.map_cons, List.map_nil, List.sum_cons, List.sum_nil, Nat.reduceAdd, Nat.reduceLeDiff, Value.category, Option.toList, true_or, or_true, z_ua, ↓reduceIte, Nat.reduceEqDiff, eq_self, not_true_eq_false, not_false_eq_true, false_implies, true_implies, Classical.not_not, Nat.le_refl, Nat.zero_le, sK71 hS]
  try dsimp only
  refine z_callD (c199 mode) (by omega) (by omega) (by omega) (Nat.le_of_ble_eq_true rfl) ?_
  try simp only [zW, z_wp1, z_ld, z_f0, z_f1, z_f2, z_f3, List.getElem?_cons_zero, List.getElem?_cons_succ, true_and, and_true, Int32.reduceOfInt, z_i10, z_i01, Int32.reduceLT, Int32.reduceLE, Int32.reduceAdd, Int32.reduceSub, z_set, z_set2, z_kil, List.set_cons_zero, List.set_cons_succ, List.take_succ_cons, List.take_zero, List.drop_succ_cons, List.drop_zero, List.reverse_cons, List.reverse_nil, List.nil_append, List.cons_append, List.getD_cons_succ, List.getD_cons_zero, List.getD_nil, List.length_cons, List.length_nil, List.map_cons, List.map_nil, List.sum_cons, List.sum_nil, Nat.reduceAdd, Nat.reduceLeDiff, Value.category, Option.toList, true_or, or_true, z_ua, ↓reduceIte, Nat.reduceEqDiff, eq_self, not_true_eq_false, not_false_eq_true, false_implies, true_implies, Classical.not_not, Nat.le_refl, Nat.zero_le, sK71 hS, z_b1 hmd]
  try dsimp only
  refine zW_ok hj B209_15 15 _ _ _ _ _ b209_15 ?_
  simp only [B209_15, zW, z_wp1, z_ld, z_f0, z_f1, z_f2, z_f3, List.getElem?_cons_zero, List.getElem?_cons_succ, true_and, and_true, Int32.reduceOfInt, z_i10, z_i01, Int32.reduceLT, Int32.reduceLE, Int32.reduceAdd, Int32.reduceSub, z_set, z_set2, z_kil, List.set_cons_zero, List.set_cons_succ, List.take_succ_cons, List.take_zero, List.drop_succ_cons, List.drop_zero, List.reverse_cons, List.reverse_nil, List.nil_append, List.cons_append, List.getD_cons_succ, List.getD_cons_zero, List.getD_nil, List.length_cons, List.length_nil, List.map_cons, List.map_nil, List.sum_cons, List.sum_nil, Nat.reduceAdd, Nat.reduceLeDiff, Value.category, Option.toList, true_or, or_true, z_ua, ↓reduceIte, Nat.reduceEqDiff, eq_self, not_true_eq_false, not_false_eq_true, false_implies, true_implies, Classical.not_not, Nat.le_refl, Nat.zero_le, sK71 hS]
  try dsimp only
  refine z_callQ (c207 (I := m_t I) hS hst' mode) (by omega) (by omega) (by omega) (Nat.le_of_ble_eq_true rfl) ?_
  rintro r h' ⟨rfl, I', rfl, ho, h1, h2⟩
  have h1 : I' 71 34 = nI (m_cl (mS N) (mC I c F N tr mode) (2 ^ N)).length := h1
  have h2 : m_lst (I' 87) (m_cl (mS N) (mC I c F N tr mode) (2 ^ N)) := h2
  have hlen := m_cl_len (mS N) (mC I c F N tr mode) (2 ^ N)
  generalize m_cl (mS N) (mC I c F N tr mode) (2 ^ N) = LL at h1 h2 hQ hlen
  simp only [zW, z_wp1, z_ld, z_f0, z_f1, z_f2, z_f3, List.getElem?_cons_zero, List.getElem?_cons_succ, true_and, and_true, Int32.reduceOfInt, z_i10, z_i01, Int32.reduceLT, Int32.reduceLE, Int32.reduceAdd, Int32.reduceSub, z_set, z_set2, z_kil, List.set_cons_zero, List.set_cons_succ, List.take_succ_cons, List.take_zero, List.drop_succ_cons, List.drop_zero, List.reverse_cons, List.reverse_nil, List.nil_append, List.cons_append, List.getD_cons_succ, List.getD_cons_zero, List.getD_nil, List.length_cons, List.length_nil, List.map_cons, List.map_nil, List.sum_cons, List.sum_nil, Nat.reduceAdd, Nat.reduceLeDiff, Value.category, Option.toList, true_or, or_true, z_ua, ↓reduceIte, Nat.reduceEqDiff, eq_self, not_true_eq_false, not_false_eq_true, false_implies, true_implies, Classical.not_not, Nat.le_refl, Nat.zero_le, sK71 hS, h1]
  try dsimp only
  refine z_callD (c160 hS i 0 (nI LL.length - 1)) (by omega) (by omega) (by omega) (Nat.le_of_ble_eq_true rfl) ?_
  try simp only [zW, z_wp1, z_ld, z_f0, z_f1, z_f2, z_f3, List.getElem?_cons_zero, List.getElem?_cons_succ, true_and, and_true, Int32.reduceOfInt, z_i10, z_i01, Int32.reduceLT, Int32.reduceLE, Int32.reduceAdd, Int32.reduceSub, z_set, z_set2, z_kil, List.set_cons_zero, List.set_cons_succ, List.take_succ_cons, List.take_zero, List.drop_succ_cons, List.drop_zero, List.reverse_cons, List.reverse_nil, List.nil_append, List.cons_append, List.getD_cons_succ, List.getD_cons_zero, List.getD_nil, List.length_cons, List.length_nil, List.map_cons, List.map_nil, List.sum_cons, List.sum_nil, Nat.reduceAdd, Nat.reduceLeDiff, Value.category, Option.toList, true_or, or_true, z_ua, ↓reduceIte, Nat.reduceEqDiff, eq_self, not_true_eq_false, not_false_eq_true, false_implies, true_implies, Classical.not_not, Nat.le_refl, Nat.zero_le, sK71 hS, z_b_eq, sG71_33 hS, sK87 hS, sL87 hS]
  try dsimp only
  have hl1 : (nI LL.length - 1).toInt = (LL.length : Int) - 1 := by
    exact pk_sub_toInt (a := LL.length) (b := 1) (by omega) (by omega)
  have iff1 : (0 ≤ i ∧ i ≤ nI LL.length - 1) ↔ (0 ≤ i ∧ i < nI LL.length) := by
    simp only [Int32.le_iff_toInt_le, Int32.lt_iff_toInt_lt, hl1, nI_toInt (show LL.length < 2 ^ 31 by omega)]
    omega
  rw [iff1]
  refine ⟨fun h3 => ?_, fun h3 => ?_⟩
  · refine zW_ok hj B209_44 44 _ _ _ _ _ b209_44 ?_
    simp only [B209_44, zW, z_wp1, z_ld, z_f0, z_f1, z_f2, z_f3, List.getElem?_cons_zero, List.getElem?_cons_succ, true_and, and_true, Int32.reduceOfInt, z_i10, z_i01, Int32.reduceLT, Int32.reduceLE, Int32.reduceAdd, Int32.reduceSub, z_set, z_set2, z_kil, List.set_cons_zero, List.set_cons_succ, List.take_succ_cons, List.take_zero, List.drop_succ_cons, List.drop_zero, List.reverse_cons, List.reverse_nil, List.nil_append, List.cons_append, List.getD_cons_succ, List.getD_cons_zero, List.getD_nil, List.length_cons, List.length_nil, List.map_cons, List.map_nil, List.sum_cons, List.sum_nil, Nat.reduceAdd, Nat.reduceLeDiff, Value.category, Option.toList, true_or, or_true, z_ua, ↓reduceIte, Nat.reduceEqDiff, eq_self, not_true_eq_false, not_false_eq_true, false_implies, true_implies, Classical.not_not, Nat.le_refl, Nat.zero_le]
    try dsimp only
    refine zW_ok hj B209_45 45 _ _ _ _ _ b209_45 ?_
    simp only [B209_45, zW, z_wp1, z_ld, z_f0, z_f1, z_f2, z_f3, List.getElem?_cons_zero, List.getElem?_cons_succ, true_and, and_true, Int32.reduceOfInt, z_i10, z_i01, Int32.reduceLT, Int32.reduceLE, Int32.reduceAdd, Int32.reduceSub, z_set, z_set2, z_kil, List.set_cons_zero, List.set_cons_succ, List.take_succ_cons, List.take_zero, List.drop_succ_cons, List.drop_zero, List.reverse_cons, List.reverse_nil, List.nil_append, List.cons_append, List.getD_cons_succ, List.getD_cons_zero, List.getD_nil, List.length_cons, List.length_nil, List.map_cons, List.map_nil, List.sum_cons, List.sum_nil, Nat.reduceAdd, Nat.reduceLeDiff, Value.category, Option.toList, true_or, or_true, z_ua, ↓reduceIte, Nat.reduceEqDiff, eq_self, not_true_eq_false, not_false_eq_true, false_implies, true_implies, Classical.not_not, Nat.le_refl, Nat.zero_le]
    try dsimp only
    exact hQ _ _ ⟨by rw [m_nth, if_neg h3], I', rfl, ho⟩
  · have hin : i.toNatClampNeg < LL.length ∧ vp_in i 4096 := by
      have a1 := h3.1; have a2 := h3.2
      simp only [Int32.le_iff_toInt_le, Int32.lt_iff_toInt_lt, nI_toInt (show LL.length < 2 ^ 31 by omega), Int32.reduceToInt] at a1 a2
      refine ⟨?_, vp_in_iff.mpr (by omega)⟩
      rw [Int32.toNatClampNeg]
      omega
    refine ⟨hin.2, ?_⟩
    refine zW_ok hj B209_45 45 _ _ _ _ _ b209_45 ?_
    simp only [B209_45, zW, z_wp1, z_ld, z_f0, z_f1, z_f2, z_f3, List.getElem?_cons_zero, List.getElem?_cons_succ, true_and, and_true, Int32.reduceOfInt, z_i10, z_i01, Int32.reduceLT, Int32.reduceLE, Int32.reduceAdd, Int32.reduceSub, z_set, z_set2, z_kil, List.set_cons_zero, List.set_cons_succ, List.take_succ_cons, List.take_zero, List.drop_succ_cons, List.drop_zero, List.reverse_cons, List.reverse_nil, List.nil_append, List.cons_append, List.getD_cons_succ, List.getD_cons_zero, List.getD_nil, List.length_cons, List.length_nil, List.map_cons, List.map_nil, List.sum_cons, List.sum_nil, Nat.reduceAdd, Nat.reduceLeDiff, Value.category, Option.toList, true_or, or_true, z_ua, ↓reduceIte, Nat.reduceEqDiff, eq_self, not_true_eq_false, not_false_eq_true, false_implies, true_implies, Classical.not_not, Nat.le_refl, Nat.zero_le]
    try dsimp only
    refine hQ _ _ ⟨?_, I', rfl, ho⟩
    rw [m_nth, if_pos h3, List.getD_eq_getElem?_getD]
    have e := List.getElem?_eq_getElem hin.1
    rw [h2 _ _ e, e]
    rfl
theorem c209b (hS : SS K L G) {mode i : Int32} (hmd : ¬ (mode = 0 ∨ mode = 1)) : z_D l 5 209 [.ref 71, .int mode, .int i] (n, K, L, I, J, G) (some (.int (-1))) (n, K, L, m_t I, J, G) := by
  refine z_ctr (by decide) (by decide +kernel) (Nat.le_of_ble_eq_true rfl) (by decide +kernel) (fun X hl hj hd hm hs hsc hQ => ?_)
  show zV X 0 [some (.ref 71), some (.int mode), some (.int i)] [] _ 0 0
  refine zW_ok hj B209_0 0 _ _ _ _ _ b209_0 ?_
  simp only [B209_0, zW, z_wp1, z_ld, z_f0, z_f1, z_f2, z_f3, List.getElem?_cons_zero, List.getElem?_cons_succ, true_and, and_true, Int32.reduceOfInt, z_i10, z_i01, Int32.reduceLT, Int32.reduceLE, Int32.reduceAdd, Int32.reduceSub, z_set, z_set2, z_kil, List.set_cons_zero, List.set_cons_succ, List.take_succ_cons, List.take_zero, List.drop_succ_cons, List.drop_zero, List.reverse_cons, List.reverse_nil, List.nil_append, List.cons_append, List.getD_cons_succ, List.getD_cons_zero, List.getD_nil, List.length_cons, List.length_nil, List.map_cons, List.map_nil, List.sum_cons, List.sum_nil, Nat.reduceAdd, Nat.reduceLeDiff, Value.category, Option.toList, true_or, or_true, z_ua, ↓reduceIte, Nat.reduceEqDiff, eq_self, not_true_eq_false, not_false_eq_true, false_implies, true_implies, Classical.not_not, Nat.le_refl, Nat.zero_le, sK71 hS]
  try dsimp only
  refine z_callD (c199 mode) (by omega) (by omega) (by omega) (Nat.le_of_ble_eq_true rfl) ?_
  try simp only [zW, z_wp1, z_ld, z_f0, z_f1, z_f2, z_f3, List.getElem?_cons_zero, List.getElem?_cons_succ, true_and, and_true, Int32.reduceOfInt, z_i10, z_i01, Int32.reduceLT, Int32.reduceLE, Int32.reduceAdd, Int32.reduceSub, z_set, z_set2, z_kil, List.set_cons_zero, List.set_cons_succ, List.take_succ_cons, List.take_zero, List.drop_succ_cons, List.drop_zero, List.reverse_cons, List.reverse_nil, List.nil_append, List.cons_append, List.getD_cons_succ, List.getD_cons_zero, List.getD_nil, List.length_cons, List.length_nil, List.map_cons, List.map_nil, List.sum_cons, List.sum_nil, Nat.reduceAdd, Nat.reduceLeDiff, Value.category, Option.toList, true_or, or_true, z_ua, ↓reduceIte, Nat.reduceEqDiff, eq_self, not_true_eq_false, not_false_eq_true, false_implies, true_implies, Classical.not_not, Nat.le_refl, Nat.zero_le, sK71 hS, z_b0 hmd]
  try dsimp only
  exact hQ _ _ ⟨rfl, rfl⟩
/-- the place of x in a list from i on, or -1 -/
def m_idx (x : Int32) : List Int32 → Nat → Int32
  | [], _ => -1
  | y :: r, i => if y = x then nI i else m_idx x r (i + 1)
theorem c210_loop {X : zX} (hS : SS K L G) (hj : X.2.1 = 210) {set mode : Int32} {LL : List Int32} (h1 : I 71 34 = nI LL.length) (h2 : m_lst (I 87) LL) (hlen : LL.length ≤ 4096) {v : Int32} (hQ : ∀ r h', r = some (.int v) ∧ h' = (n, K, L, I, J, G) → X.2.2.2.2.2.2 r h') : ∀ (rest : List Int32) (i : Nat), LL.drop i = rest → i ≤ LL.length → m_idx set rest i = v → zV X 30 [some (.ref 71), some (.int mode), some (.int set), some (.int (nI i))] [] (n, K, L, I, J, G) 0 0
  | [], i, hr, hi, hv => by
    have e : i = LL.length := by
      have : (LL.drop i).length = 0 := by rw [hr]; rfl
      rw [List.length_drop] at this
      omega
    subst e
    refine zW_ok hj B210_30 30 _ _ _ _ _ b210_30 ?_
    simp only [B210_30, zW, z_wp1, z_ld, z_f0, z_f1, z_f2, z_f3, List.getElem?_cons_zero, List.getElem?_cons_succ, true_and, and_true, Int32.reduceOfInt, z_i10, z_i01, Int32.reduceLT, Int32.reduceLE, Int32.reduceAdd, Int32.reduceSub, z_set, z_set2, z_kil, List.set_cons_zero, List.set_cons_succ, List.take_succ_cons, List.take_zero, List.drop_succ_cons, List.drop_zero, List.reverse_cons, List.reverse_nil, List.nil_append, List.cons_append, List.getD_cons_succ, List.getD_cons_zero, List.getD_nil, List.length_cons, List.length_nil, List.map_cons, List.map_nil, List.sum_cons, List.sum_nil, Nat.reduceAdd, Nat.reduceLeDiff, Value.category, Option.toList, true_or, or_true, z_ua, ↓reduceIte, Nat.reduceEqDiff, eq_self, not_true_eq_false, not_false_eq_true, false_implies, true_implies, Classical.not_not, Nat.le_refl, Nat.zero_le, sK71 hS, h1, sG71_33 hS, sK87 hS, sL87 hS]
    try dsimp only
    refine ⟨fun _ => ?_, fun hc => absurd (nI_le (Nat.le_refl _) (by omega)) hc⟩
    refine zW_ok hj B210_56 56 _ _ _ _ _ b210_56 ?_
    simp only [B210_56, zW, z_wp1, z_ld, z_f0, z_f1, z_f2, z_f3, List.getElem?_cons_zero, List.getElem?_cons_succ, true_and, and_true, Int32.reduceOfInt, z_i10, z_i01, Int32.reduceLT, Int32.reduceLE, Int32.reduceAdd, Int32.reduceSub, z_set, z_set2, z_kil, List.set_cons_zero, List.set_cons_succ, List.take_succ_cons, List.take_zero, List.drop_succ_cons, List.drop_zero, List.reverse_cons, List.reverse_nil, List.nil_append, List.cons_append, List.getD_cons_succ, List.getD_cons_zero, List.getD_nil, List.length_cons, List.length_nil, List.map_cons, List.map_nil, List.sum_cons, List.sum_nil, Nat.reduceAdd, Nat.reduceLeDiff, Value.category, Option.toList, true_or, or_true, z_ua, ↓reduceIte, Nat.reduceEqDiff, eq_self, not_true_eq_false, not_false_eq_true, false_implies, true_implies, Classical.not_not, Nat.le_refl, Nat.zero_le]
    try dsimp only
    exact hQ _ _ ⟨by rw [← hv]; rfl, rfl⟩
  | y :: rest, i, hr, hi, hv => by
    have hl : i < LL.length := by
      have : 0 < (LL.drop i).length := by rw [hr]; simp
      rw [List.length_drop] at this
      omega
    have hy : I 87 i = y := h2 i y (by
      have : (LL.drop i)[0]? = some y := by rw [hr]; rfl
      rwa [List.getElem?_drop, Nat.add_zero] at this)
    have hr' : LL.drop (i + 1) = rest := by rw [← List.drop_drop, hr]; rfl
    have e2 : (nI i).toNatClampNeg = i := nI_clamp (by omega)
    have e3 : vp_in (nI i) 4096 := vp_in_nI (by omega) (by omega)
    refine zW_ok hj B210_30 30 _ _ _ _ _ b210_30 ?_
    simp only [B210_30, zW, z_wp1, z_ld, z_f0, z_f1, z_f2, z_f3, List.getElem?_cons_zero, List.getElem?_cons_succ, true_and, and_true, Int32.reduceOfInt, z_i10, z_i01, Int32.reduceLT, Int32.reduceLE, Int32.reduceAdd, Int32.reduceSub, z_set, z_set2, z_kil, List.set_cons_zero, List.set_cons_succ, List.take_succ_cons, List.take_zero, List.drop_succ_cons, List.drop_zero, List.reverse_cons, List.reverse_nil, List.nil_append, List.cons_append, List.getD_cons_succ, List.getD_cons_zero, List.getD_nil, List.length_cons, List.length_nil, List.map_cons, List.map_nil, List.sum_cons, List.sum_nil, Nat.reduceAdd, Nat.reduceLeDiff, Value.category, Option.toList, true_or, or_true, z_ua, ↓reduceIte, Nat.reduceEqDiff, eq_self, not_true_eq_false, not_false_eq_true, false_implies, true_implies, Classical.not_not, Nat.le_refl, Nat.zero_le, sK71 hS, h1, sG71_33 hS, sK87 hS, sL87 hS, e2, e3, hy]
    try dsimp only
    refine ⟨fun hc => absurd hc (nI_ge (by omega) (by omega)), fun _ => ⟨fun h3 => ?_, fun h3 => ?_⟩⟩
    · refine zW_ok hj B210_50 50 _ _ _ _ _ b210_50 ?_
      simp only [B210_50, zW, z_wp1, z_ld, z_f0, z_f1, z_f2, z_f3, List.getElem?_cons_zero, List.getElem?_cons_succ, true_and, and_true, Int32.reduceOfInt, z_i10, z_i01, Int32.reduceLT, Int32.reduceLE, Int32.reduceAdd, Int32.reduceSub, z_set, z_set2, z_kil, List.set_cons_zero, List.set_cons_succ, List.take_succ_cons, List.take_zero, List.drop_succ_cons, List.drop_zero, List.reverse_cons, List.reverse_nil, List.nil_append, List.cons_append, List.getD_cons_succ, List.getD_cons_zero, List.getD_nil, List.length_cons, List.length_nil, List.map_cons, List.map_nil, List.sum_cons, List.sum_nil, Nat.reduceAdd, Nat.reduceLeDiff, Value.category, Option.toList, true_or, or_true, z_ua, ↓reduceIte, Nat.reduceEqDiff, eq_self, not_true_eq_false, not_false_eq_true, false_implies, true_implies, Classical.not_not, Nat.le_refl, Nat.zero_le, nI_1]
      try dsimp only
      exact c210_loop hS hj h1 h2 hlen hQ rest (i + 1) hr' (by omega) (by rw [← hv, m_idx, if_neg h3])
    · exact hQ _ _ ⟨by rw [← hv, m_idx, if_pos h3], rfl⟩
/-- number -/
theorem c210a (hS : SS K L G) (hst : m_st I c F N tr) {mode set : Int32} (hmd : m_md mode) (hset : m_isM N set) : z_Ctr l 5 210 [.ref 71, .int mode, .int set] (n, K, L, I, J, G) 0 0 (fun r h' => r = some (.int (m_idx set (m_cl (mS N) (mC I c F N tr mode) (2 ^ N)) 0)) ∧ ∃ I', h' = (n, K, L, I', J, G) ∧ m_off7 (m_t I) I') := by
  have hst' := (m_sm.t I).st hst
  obtain ⟨s1, s2, s3, s4, s5, s6, s7⟩ := id hst'
  have hp := z_pow s6
  have d1 : Decidable (m_isM N set) := Classical.propDecidable _
  have d2 : Decidable (m_md mode) := Classical.propDecidable _
  refine z_ctr (by decide) (by decide +kernel) (Nat.le_of_ble_eq_true rfl) (by decide +kernel) (fun X hl hj hd hm hs hsc hQ => ?_)
  show zV X 0 [some (.ref 71), some (.int mode), some (.int set), none] [] _ 0 0
  refine zW_ok hj B210_0 0 _ _ _ _ _ b210_0 ?_
  simp only [B210_0, zW, z_wp1, z_ld, z_f0, z_f1, z_f2, z_f3, List.getElem?_cons_zero, List.getElem?_cons_succ, true_and, and_true, Int32.reduceOfInt, z_i10, z_i01, Int32.reduceLT, Int32.reduceLE, Int32.reduceAdd, Int32.reduceSub, z_set, z_set2, z_kil, List.set_cons_zero, List.set_cons_succ, List.take_succ_cons, List.take_zero, List.drop_succ_cons, List.drop_zero, List.reverse_cons, List.reverse_nil, List.nil_append, List.cons_append, List.getD_cons_succ, List.getD_cons_zero, List.getD_nil, List.length_cons, List.length_nil, List.map_cons, List.map_nil, List.sum_cons, List.sum_nil, Nat.reduceAdd, Nat.reduceLeDiff, Value.category, Option.toList, true_or, or_true, z_ua, ↓reduceIte, Nat.reduceEqDiff, eq_self, not_true_eq_false, not_false_eq_true, false_implies, true_implies, Classical.not_not, Nat.le_refl, Nat.zero_le, sK71 hS]
  try dsimp only
  refine z_callD (c199n mode) (by omega) (by omega) (by omega) (Nat.le_of_ble_eq_true rfl) ?_
  try simp only [zW, z_wp1, z_ld, z_f0, z_f1, z_f2, z_f3, List.getElem?_cons_zero, List.getElem?_cons_succ, true_and, and_true, Int32.reduceOfInt, z_i10, z_i01, Int32.reduceLT, Int32.reduceLE, Int32.reduceAdd, Int32.reduceSub, z_set, z_set2, z_kil, List.set_cons_zero, List.set_cons_succ, List.take_succ_cons, List.take_zero, List.drop_succ_cons, List.drop_zero, List.reverse_cons, List.reverse_nil, List.nil_append, List.cons_append, List.getD_cons_succ, List.getD_cons_zero, List.getD_nil, List.length_cons, List.length_nil, List.map_cons, List.map_nil, List.sum_cons, List.sum_nil, Nat.reduceAdd, Nat.reduceLeDiff, Value.category, Option.toList, true_or, or_true, z_ua, ↓reduceIte, Nat.reduceEqDiff, eq_self, not_true_eq_false, not_false_eq_true, false_implies, true_implies, Classical.not_not, Nat.le_refl, Nat.zero_le, sK71 hS, z_b1 hmd]
  try dsimp only
  refine z_callD (c200n hS s5 s6 set) (by omega) (by omega) (by omega) (Nat.le_of_ble_eq_true rfl) ?_
  try simp only [zW, z_wp1, z_ld, z_f0, z_f1, z_f2, z_f3, List.getElem?_cons_zero, List.getElem?_cons_succ, true_and, and_true, Int32.reduceOfInt, z_i10, z_i01, Int32.reduceLT, Int32.reduceLE, Int32.reduceAdd, Int32.reduceSub, z_set, z_set2, z_kil, List.set_cons_zero, List.set_cons_succ, List.take_succ_cons, List.take_zero, List.drop_succ_cons, List.drop_zero, List.reverse_cons, List.reverse_nil, List.nil_append, List.cons_append, List.getD_cons_succ, List.getD_cons_zero, List.getD_nil, List.length_cons, List.length_nil, List.map_cons, List.map_nil, List.sum_cons, List.sum_nil, Nat.reduceAdd, Nat.reduceLeDiff, Value.category, Option.toList, true_or, or_true, z_ua, ↓reduceIte, Nat.reduceEqDiff, eq_self, not_true_eq_false, not_false_eq_true, false_implies, true_implies, Classical.not_not, Nat.le_refl, Nat.zero_le, sK71 hS, z_b1 hset]
  try dsimp only
  refine zW_ok hj B210_23 23 _ _ _ _ _ b210_23 ?_
  simp only [B210_23, zW, z_wp1, z_ld, z_f0, z_f1, z_f2, z_f3, List.getElem?_cons_zero, List.getElem?_cons_succ, true_and, and_true, Int32.reduceOfInt, z_i10, z_i01, Int32.reduceLT, Int32.reduceLE, Int32.reduceAdd, Int32.reduceSub, z_set, z_set2, z_kil, List.set_cons_zero, List.set_cons_succ, List.take_succ_cons, List.take_zero, List.drop_succ_cons, List.drop_zero, List.reverse_cons, List.reverse_nil, List.nil_append, List.cons_append, List.getD_cons_succ, List.getD_cons_zero, List.getD_nil, List.length_cons, List.length_nil, List.map_cons, List.map_nil, List.sum_cons, List.sum_nil, Nat.reduceAdd, Nat.reduceLeDiff, Value.category, Option.toList, true_or, or_true, z_ua, ↓reduceIte, Nat.reduceEqDiff, eq_self, not_true_eq_false, not_false_eq_true, false_implies, true_implies, Classical.not_not, Nat.le_refl, Nat.zero_le, sK71 hS]
  try dsimp only
  refine z_callQ (c207 (I := m_t I) hS hst' mode) (by omega) (by omega) (by omega) (Nat.le_of_ble_eq_true rfl) ?_
  rintro r h' ⟨rfl, I', rfl, ho, h1, h2⟩
  have hlen := m_cl_len (mS N) (mC I c F N tr mode) (2 ^ N)
  simp only [zW, z_wp1, z_ld, z_f0, z_f1, z_f2, z_f3, List.getElem?_cons_zero, List.getElem?_cons_succ, true_and, and_true, Int32.reduceOfInt, z_i10, z_i01, Int32.reduceLT, Int32.reduceLE, Int32.reduceAdd, Int32.reduceSub, z_set, z_set2, z_kil, List.set_cons_zero, List.set_cons_succ, List.take_succ_cons, List.take_zero, List.drop_succ_cons, List.drop_zero, List.reverse_cons, List.reverse_nil, List.nil_append, List.cons_append, List.getD_cons_succ, List.getD_cons_zero, List.getD_nil, List.length_cons, List.length_nil, List.map_cons, List.map_nil, List.sum_cons, List.sum_nil, Nat.reduceAdd, Nat.reduceLeDiff, Value.category, Option.toList, true_or, or_true, z_ua, ↓reduceIte, Nat.reduceEqDiff, eq_self, not_true_eq_false, not_false_eq_true, false_implies, true_implies, Classical.not_not, Nat.le_refl, Nat.zero_le]
  try dsimp only
  exact c210_loop hS hj h1 h2 (Nat.le_trans (m_cl_len _ _ _) hp) (fun r h' q => hQ _ _ ⟨q.1, I', q.2, ho⟩) _ 0 rfl (Nat.zero_le _) rfl
theorem c210b (hS : SS K L G) (hst : m_st I c F N tr) {set mode : Int32} (h : ¬ (m_md mode ∧ m_isM N set)) : z_D l 5 210 [.ref 71, .int mode, .int set] (n, K, L, I, J, G) (some (.int (-1))) (n, K, L, m_t I, J, G) := by
  obtain ⟨s1, s2, s3, s4, s5, s6, s7⟩ := (m_sm.t I).st hst
  have d1 : Decidable (m_isM N set) := Classical.propDecidable _
  have d2 : Decidable (m_md mode) := Classical.propDecidable _
  refine z_ctr (by decide) (by decide +kernel) (Nat.le_of_ble_eq_true rfl) (by decide +kernel) (fun X hl hj hd hm hs hsc hQ => ?_)
  show zV X 0 [some (.ref 71), some (.int mode), some (.int set), none] [] _ 0 0
  have no : zV X 21 [some (.ref 71), some (.int mode), some (.int set), none] [] (n, K, L, m_t I, J, G) 0 0 := by
    refine zW_ok hj B210_21 21 _ _ _ _ _ b210_21 ?_
    simp only [B210_21, zW, z_wp1, z_ld, z_f0, z_f1, z_f2, z_f3, List.getElem?_cons_zero, List.getElem?_cons_succ, true_and, and_true, Int32.reduceOfInt, z_i10, z_i01, Int32.reduceLT, Int32.reduceLE, Int32.reduceAdd, Int32.reduceSub, z_set, z_set2, z_kil, List.set_cons_zero, List.set_cons_succ, List.take_succ_cons, List.take_zero, List.drop_succ_cons, List.drop_zero, List.reverse_cons, List.reverse_nil, List.nil_append, List.cons_append, List.getD_cons_succ, List.getD_cons_zero, List.getD_nil, List.length_cons, List.length_nil, List.map_cons, List.map_nil, List.sum_cons, List.sum_nil, Nat.reduceAdd, Nat.reduceLeDiff, Value.category, Option.toList, true_or, or_true, z_ua, ↓reduceIte, Nat.reduceEqDiff, eq_self, not_true_eq_false, not_false_eq_true, false_implies, true_implies, Classical.not_not, Nat.le_refl, Nat.zero_le]
    try dsimp only
    exact hQ _ _ ⟨rfl, rfl⟩
  refine zW_ok hj B210_0 0 _ _ _ _ _ b210_0 ?_
  simp only [B210_0, zW, z_wp1, z_ld, z_f0, z_f1, z_f2, z_f3, List.getElem?_cons_zero, List.getElem?_cons_succ, true_and, and_true, Int32.reduceOfInt, z_i10, z_i01, Int32.reduceLT, Int32.reduceLE, Int32.reduceAdd, Int32.reduceSub, z_set, z_set2, z_kil, List.set_cons_zero, List.set_cons_succ, List.take_succ_cons, List.take_zero, List.drop_succ_cons, List.drop_zero, List.reverse_cons, List.reverse_nil, List.nil_append, List.cons_append, List.getD_cons_succ, List.getD_cons_zero, List.getD_nil, List.length_cons, List.length_nil, List.map_cons, List.map_nil, List.sum_cons, List.sum_nil, Nat.reduceAdd, Nat.reduceLeDiff, Value.category, Option.toList, true_or, or_true, z_ua, ↓reduceIte, Nat.reduceEqDiff, eq_self, not_true_eq_false, not_false_eq_true, false_implies, true_implies, Classical.not_not, Nat.le_refl, Nat.zero_le, sK71 hS]
  try dsimp only
  refine z_callD (c199n mode) (by omega) (by omega) (by omega) (Nat.le_of_ble_eq_true rfl) ?_
  try simp only [zW, z_wp1, z_ld, z_f0, z_f1, z_f2, z_f3, List.getElem?_cons_zero, List.getElem?_cons_succ, true_and, and_true, Int32.reduceOfInt, z_i10, z_i01, Int32.reduceLT, Int32.reduceLE, Int32.reduceAdd, Int32.reduceSub, z_set, z_set2, z_kil, List.set_cons_zero, List.set_cons_succ, List.take_succ_cons, List.take_zero, List.drop_succ_cons, List.drop_zero, List.reverse_cons, List.reverse_nil, List.nil_append, List.cons_append, List.getD_cons_succ, List.getD_cons_zero, List.getD_nil, List.length_cons, List.length_nil, List.map_cons, List.map_nil, List.sum_cons, List.sum_nil, Nat.reduceAdd, Nat.reduceLeDiff, Value.category, Option.toList, true_or, or_true, z_ua, ↓reduceIte, Nat.reduceEqDiff, eq_self, not_true_eq_false, not_false_eq_true, false_implies, true_implies, Classical.not_not, Nat.le_refl, Nat.zero_le, sK71 hS, z_b_eq]
  try dsimp only
  refine ⟨fun _ => no, fun h1 => ?_⟩
  refine z_callD (c200n hS s5 s6 set) (by omega) (by omega) (by omega) (Nat.le_of_ble_eq_true rfl) ?_
  try simp only [zW, z_wp1, z_ld, z_f0, z_f1, z_f2, z_f3, List.getElem?_cons_zero, List.getElem?_cons_succ, true_and, and_true, Int32.reduceOfInt, z_i10, z_i01, Int32.reduceLT, Int32.reduceLE, Int32.reduceAdd, Int32.reduceSub, z_set, z_set2, z_kil, List.set_cons_zero, List.set_cons_succ, List.take_succ_cons, List.take_zero, List.drop_succ_cons, List.drop_zero, List.reverse_cons, List.reverse_nil, List.nil_append, List.cons_append, List.getD_cons_succ, List.getD_cons_zero, List.getD_nil, List.length_cons, List.length_nil, List.map_cons, List.map_nil, List.sum_cons, List.sum_nil, Nat.reduceAdd, Nat.reduceLeDiff, Value.category, Option.toList, true_or, or_true, z_ua, ↓reduceIte, Nat.reduceEqDiff, eq_self, not_true_eq_false, not_false_eq_true, false_implies, true_implies, Classical.not_not, Nat.le_refl, Nat.zero_le, sK71 hS, z_b_eq]
  try dsimp only
  exact ⟨fun h2 => absurd ⟨h1, h2⟩ h, fun _ => no⟩
end M10
