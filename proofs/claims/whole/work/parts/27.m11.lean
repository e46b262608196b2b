/-! The model: rules -/
/-- places and slots of the model that questions leave as they are -/
def mP (q : Nat) : Prop := q < 71 ∨ (72 ≤ q ∧ q ≤ 82) ∨ (90 ≤ q ∧ q ≤ 92) ∨ q = 97 ∨ 103 ≤ q
def mQ (k : Nat) : Prop := k = 1 ∨ k = 2 ∨ k = 8 ∨ k = 9 ∨ k = 11 ∨ k = 17 ∨ k = 28 ∨ k = 29 ∨ k = 38 ∨ k = 39 ∨ k = 40 ∨ k = 42
def mF (I I' : Nat → Nat → Int32) : Prop := (∀ q, mP q → I' q = I q) ∧ ∀ k, mQ k → I' 71 k = I 71 k
theorem mF.rf (I : Nat → Nat → Int32) : mF I I := ⟨fun _ _ => rfl, fun _ _ => rfl⟩
theorem mF.tr {I I1 I2 : Nat → Nat → Int32} (h : mF I I1) (h2 : mF I1 I2) : mF I I2 := ⟨fun q a => (h2.1 q a).trans (h.1 q a), fun k a => (h2.2 k a).trans (h.2 k a)⟩
theorem mF.sm {I I' : Nat → Nat → Int32} (h : mF I I') : m_sm I I' := ⟨h.2 _ (by unfold mQ; omega), h.2 _ (by unfold mQ; omega), h.2 _ (by unfold mQ; omega), fun q a b => h.1 q (by unfold mP; omega), fun q a b => h.1 q (by unfold mP; omega)⟩
theorem mF.p {I I' : Nat → Nat → Int32} (h : mF I I') (a k : Nat) (x : Int32) (ha : ¬ mP a ∧ a ≠ 71) : mF I (z_u I' a k x) := ⟨fun q hq => by rw [z_u_ne (show q ≠ a from fun e => ha.1 (by rw [← e]; exact hq))]; exact h.1 q hq, fun i hi => by rw [z_u_ne (fun e => ha.2 e.symm)]; exact h.2 i hi⟩
theorem mF.s {I I' : Nat → Nat → Int32} (h : mF I I') (k : Nat) (x : Int32) (hk : ¬ mQ k) : mF I (z_u I' 71 k x) := ⟨fun q hq => by rw [z_u_ne (fun e => by rw [e] at hq; unfold mP at hq; omega)]; exact h.1 q hq, fun i hi => by rw [z_u_at, if_neg (show ¬ i = k from fun e => hk (by rw [← e]; exact hi))]; exact h.2 i hi⟩
theorem mF.t (I : Nat → Nat → Int32) : mF I (m_t I) := (mF.rf I).s 0 0 (by unfold mQ; omega)
theorem m_off.F {I I' : Nat → Nat → Int32} (h : m_off I I') : mF I I' := ⟨fun q hq => h q (by unfold mP at hq; omega) (by unfold mP at hq; omega), fun k _ => by rw [h 71 (by decide) (by decide)]⟩
theorem m_off6.F {I I' : Nat → Nat → Int32} (h : m_off6 I I') : mF I I' := ⟨fun q hq => h q (by unfold mP at hq; omega) (by unfold mP at hq; omega) (by unfold mP at hq; omega), fun k _ => by rw [h 71 (by decide) (by decide) (by decide)]⟩
theorem m_off7.F {I I' : Nat → Nat → Int32} (h : m_off7 I I') : mF I I' := ⟨fun q hq => h.1 q (by unfold mP at hq; omega) (by unfold mP at hq; omega) (by unfold mP at hq; omega) (by unfold mP at hq; omega) (by unfold mP at hq; omega), fun k hk => h.2 k (by unfold mQ at hk; omega)⟩
/-- a rule holds in a set -/
def m_kp (s : Int32) (r : Int32 × Int32) : Prop := r.1 &&& s = r.1 → r.2 &&& s = r.2
/-- the fewest rules, in THE ORDER of their premises: among the first v sets -/
noncomputable def m_rl (S : Nat → Int32) (cl : Int32 → Int32) : Nat → List (Int32 × Int32)
  | 0 => []
  | v + 1 => @ite _ (¬ cl (S v) = S v ∧ ∀ r ∈ m_rl S cl v, m_kp (S v) r) (Classical.propDecidable _) (m_rl S cl v ++ [(S v, cl (S v))]) (m_rl S cl v)
theorem m_rl_len (S : Nat → Int32) (cl : Int32 → Int32) : ∀ v, (m_rl S cl v).length ≤ v
  | 0 => by simp [m_rl]
  | v + 1 => by
    have := m_rl_len S cl v
    rw [m_rl]
    split
    · simp; omega
    · omega
/-- two rows hold a list of pairs -/
def m_ls2 (r1 r2 : Nat → Int32) (L : List (Int32 × Int32)) : Prop := ∀ t x, L[t]? = some x → r1 t = x.1 ∧ r2 t = x.2
theorem m_ls2_add {r1 r2 r1' r2' : Nat → Int32} {L : List (Int32 × Int32)} {x y : Int32} (h : m_ls2 r1 r2 L) (h1 : r1' L.length = x) (h2 : r2' L.length = y) (h3 : ∀ t, t < L.length → r1' t = r1 t ∧ r2' t = r2 t) : m_ls2 r1' r2' (L ++ [(x, y)]) := by
  intro t z hz
  by_cases hl : t < L.length
  · rw [List.getElem?_append_left hl] at hz
    rw [(h3 t hl).1, (h3 t hl).2]
    exact h t z hz
  · rw [List.getElem?_append_right (by omega)] at hz
    have hq : t - L.length < 1 := (List.getElem?_eq_some_iff.mp hz).1
    have e : t = L.length := by omega
    subst e
    rw [Nat.sub_self] at hz
    cases hz
    exact ⟨h1, h2⟩
section M11
variable {l : Launch} {n : Nat} {K L : Nat → Nat} {I : Nat → Nat → Int32} {J : Nat → Nat → Int64} {G : Nat → Nat → Value} {c F N : Nat} {tr : Nat → (Int32 → Int32) → Int32}
theorem c211_in {X : zX} (hS : SS K L G) (hj : X.2.1 = 211) {mode s al : Int32} {v : Nat} {LL : List (Int32 × Int32)} (h1 : I 71 37 = nI LL.length) (h2 : m_ls2 (I 88) (I 89) LL) (hlen : LL.length ≤ 4096)
    (ky : (¬ al = s ∧ ∀ r ∈ LL, m_kp s r) → ∀ x : Option Value, zV X 116 [some (.ref 71), some (.int mode), some (.int (nI v)), some (.int s), some (.int al), some (.int 1), x] [] (n, K, L, I, J, G) 0 0) (kn : ¬ (¬ al = s ∧ ∀ r ∈ LL, m_kp s r) → ∀ x : Option Value, zV X 116 [some (.ref 71), some (.int mode), some (.int (nI v)), some (.int s), some (.int al), some (.int 0), x] [] (n, K, L, I, J, G) 0 0) (hal : ¬ al = s) : ∀ (rest : List (Int32 × Int32)) (i : Nat), LL.drop i = rest → i ≤ LL.length → (∀ r ∈ LL.take i, m_kp s r) →
      zV X 55 [some (.ref 71), some (.int mode), some (.int (nI v)), some (.int s), some (.int al), some (.int 1), some (.int (nI i))] [] (n, K, L, I, J, G) 0 0
  | [], i, hr, hi, hk => by
    have e : i = LL.length := by
      have : (LL.drop i).length = 0 := by rw [hr]; rfl
      rw [List.length_drop] at this
      omega
    subst e
    rw [List.take_length] at hk
    refine zW_ok hj B211_55 55 _ _ _ _ _ b211_55 ?_
    simp only [B211_55, zW, z_wp1, z_ld, z_f0, z_f1, z_f2, z_f3, List.getElem?_cons_zero, List.getElem?_cons_succ, true_and, and_true, Int32.reduceOfInt, z_i10, z_i01, Int32.reduceLT, Int32.reduceLE, Int32.reduceAdd, Int32.reduceSub, z_set, z_set2, z_kil, List.set_cons_zero, List.set_cons_succ, List.take_succ_cons, List.take_zero, List.drop_succ_cons, List.drop_zero, List.reverse_cons, List.reverse_nil, List.nil_append, List.cons_append, List.getD_cons_succ, List.getD_cons_zero, List.getD_nil, List.length_cons, List.length_nil, List.map_cons, List.map_nil, List.sum_cons, List.sum_nil, Nat.reduceAdd, Nat.reduceLeDiff, Value.category, Option.toList, true_or, or_true, z_ua, ↓reduceIte, Nat.reduceEqDiff, eq_self, not_true_eq_false, not_false_eq_true, false_implies, true_implies, Classical.not_not, Nat.le_refl, Nat.zero_le, sK71 hS, h1]
    try dsimp only
    refine ⟨fun _ => ky ⟨hal, hk⟩ _, fun hc => absurd (nI_le (Nat.le_refl _) (by omega)) hc⟩
  | y :: rest, i, hr, hi, hk => by
    have hl : i < LL.length := by
      have : 0 < (LL.drop i).length := by rw [hr]; simp
      rw [List.length_drop] at this
      omega
    have hy0 : LL[i]? = some y := by
      have : (LL.drop i)[0]? = some y := by rw [hr]; rfl
      rwa [List.getElem?_drop, Nat.add_zero] at this
    obtain ⟨hy1, hy2⟩ := h2 i y hy0
    have hr' : LL.drop (i + 1) = rest := by rw [← List.drop_drop, hr]; rfl
    have e2 : (nI i).toNatClampNeg = i := nI_clamp (by omega)
    have e3 : vp_in (nI i) 4096 := vp_in_nI (by omega) (by omega)
    have go : m_kp s y → zV X 110 [some (.ref 71), some (.int mode), some (.int (nI v)), some (.int s), some (.int al), some (.int 1), some (.int (nI i))] [] (n, K, L, I, J, G) 0 0 := fun hky => by
      refine zW_ok hj B211_110 110 _ _ _ _ _ b211_110 ?_
      simp only [B211_110, zW, z_wp1, z_ld, z_f0, z_f1, z_f2, z_f3, List.getElem?_cons_zero, List.getElem?_cons_succ, true_and, and_true, Int32.reduceOfInt, z_i10, z_i01, Int32.reduceLT, Int32.reduceLE, Int32.reduceAdd, Int32.reduceSub, z_set, z_set2, z_kil, List.set_cons_zero, List.set_cons_succ, List.take_succ_cons, List.take_zero, List.drop_succ_cons, List.drop_zero, List.reverse_cons, List.reverse_nil, List.nil_append, List.cons_append, List.getD_cons_succ, List.getD_cons_zero, List.getD_nil, List.length_cons, List.length_nil, List.map_cons, List.map_nil, List.sum_cons, List.sum_nil, Nat.reduceAdd, Nat.reduceLeDiff, Value.category, Option.toList, true_or, or_true, z_ua, ↓reduceIte, Nat.reduceEqDiff, eq_self, not_true_eq_false, not_false_eq_true, false_implies, true_implies, Classical.not_not, Nat.le_refl, Nat.zero_le, nI_1]
      try dsimp only
      refine c211_in hS hj h1 h2 hlen ky kn hal rest (i + 1) hr' (by omega) (fun r hr2 => ?_)
      rw [List.take_succ, hy0] at hr2
      rcases List.mem_append.mp hr2 with q | q
      · exact hk r q
      · simp at q; rw [q]; exact hky
    refine zW_ok hj B211_55 55 _ _ _ _ _ b211_55 ?_
    simp only [B211_55, zW, z_wp1, z_ld, z_f0, z_f1, z_f2, z_f3, List.getElem?_cons_zero, List.getElem?_cons_succ, true_and, and_true, Int32.reduceOfInt, z_i10, z_i01, Int32.reduceLT, Int32.reduceLE, Int32.reduceAdd, Int32.reduceSub, z_set, z_set2, z_kil, List.set_cons_zero, List.set_cons_succ, List.take_succ_cons, List.take_zero, List.drop_succ_cons, List.drop_zero, List.reverse_cons, List.reverse_nil, List.nil_append, List.cons_append, List.getD_cons_succ, List.getD_cons_zero, List.getD_nil, List.length_cons, List.length_nil, List.map_cons, List.map_nil, List.sum_cons, List.sum_nil, Nat.reduceAdd, Nat.reduceLeDiff, Value.category, Option.toList, true_or, or_true, z_ua, ↓reduceIte, Nat.reduceEqDiff, eq_self, not_true_eq_false, not_false_eq_true, false_implies, true_implies, Classical.not_not, Nat.le_refl, Nat.zero_le, sK71 hS, h1, sG71_35 hS, sK88 hS, sL88 hS, sG71_36 hS, sK89 hS, sL89 hS, e2, e3, hy1, hy2]
    try dsimp only
    refine ⟨fun hc => absurd hc (nI_ge (by omega) (by omega)), fun _ => ⟨fun h3 => go (fun q => absurd q h3), fun h3 => ⟨fun h4 => go (fun _ => h4), fun h4 => ?_⟩⟩⟩
    -- it is no premise: the loop ends
    have stop : zV X 55 [some (.ref 71), some (.int mode), some (.int (nI v)), some (.int s), some (.int al), some (.int 0), some (.int (nI (i + 1)))] [] (n, K, L, I, J, G) 0 0 := by
      have kn' := kn (fun z => h4 (z.2 y (List.mem_of_getElem? hy0) h3))
      refine zW_ok hj B211_55 55 _ _ _ _ _ b211_55 ?_
      simp only [B211_55, zW, z_wp1, z_ld, z_f0, z_f1, z_f2, z_f3, List.getElem?_cons_zero, List.getElem?_cons_succ, true_and, and_true, Int32.reduceOfInt, z_i10, z_i01, Int32.reduceLT, Int32.reduceLE, Int32.reduceAdd, Int32.reduceSub, z_set, z_set2, z_kil, List.set_cons_zero, List.set_cons_succ, List.take_succ_cons, List.take_zero, List.drop_succ_cons, List.drop_zero, List.reverse_cons, List.reverse_nil, List.nil_append, List.cons_append, List.getD_cons_succ, List.getD_cons_zero, List.getD_nil, List.length_cons, List.length_nil, List.map_cons, List.map_nil, List.sum_cons, List.sum_nil, Nat.reduceAdd, Nat.reduceLeDiff, Value.category, Option.toList, true_or, or_true, z_ua, ↓reduceIte, Nat.reduceEqDiff, eq_self, not_true_eq_false, not_false_eq_true, false_implies, true_implies, Classical.not_not, Nat.le_refl, Nat.zero_le, sK71 hS, h1]
      try dsimp only
      exact ⟨fun _ => kn' _, fun _ => kn' _⟩
    refine zW_ok hj B211_110 110 _ _ _ _ _ b211_110 ?_
    simp only [B211_110, zW, z_wp1, z_ld, z_f0, z_f1, z_f2, z_f3, List.getElem?_cons_zero, List.getElem?_cons_succ, true_and, and_true, Int32.reduceOfInt, z_i10, z_i01, Int32.reduceLT, Int32.reduceLE, Int32.reduceAdd, Int32.reduceSub, z_set, z_set2, z_kil, List.set_cons_zero, List.set_cons_succ, List.take_succ_cons, List.take_zero, List.drop_succ_cons, List.drop_zero, List.reverse_cons, List.reverse_nil, List.nil_append, List.cons_append, List.getD_cons_succ, List.getD_cons_zero, List.getD_nil, List.length_cons, List.length_nil, List.map_cons, List.map_nil, List.sum_cons, List.sum_nil, Nat.reduceAdd, Nat.reduceLeDiff, Value.category, Option.toList, true_or, or_true, z_ua, ↓reduceIte, Nat.reduceEqDiff, eq_self, not_true_eq_false, not_false_eq_true, false_implies, true_implies, Classical.not_not, Nat.le_refl, Nat.zero_le, nI_1]
    try dsimp only
    exact stop
theorem c211_loop {X : zX} (hS : SS K L G) (hj : X.2.1 = 211) (hd : X.2.2.1 = 4) (hm : X.2.2.2.1 = 0) (hs : X.2.2.2.2.1 = 0) {I0 : Nat → Nat → Int32} (hst : m_st I0 c F N tr) {mode : Int32} {row : Nat → Int32} (cl : Int32 → Int32) (hcl : ∀ s, cl s = m_clo row s (nI (2 ^ N) - 1) F)
    (hQ : ∀ r h', (r = none ∧ ∃ I', h' = (n, K, L, I', J, G) ∧ mF I0 I' ∧ I' 71 37 = nI (m_rl (mS N) cl (2 ^ N)).length ∧ m_ls2 (I' 88) (I' 89) (m_rl (mS N) cl (2 ^ N))) → X.2.2.2.2.2.2 r h') : ∀ (k v : Nat) (I' : Nat → Nat → Int32), v + k = 2 ^ N → mF I0 I' → (∀ g, g < F → I' 86 g = row g) → I' 71 37 = nI (m_rl (mS N) cl v).length → m_ls2 (I' 88) (I' 89) (m_rl (mS N) cl v) →
      zV X 12 [some (.ref 71), some (.int mode), some (.int (nI v)), none, none, none, none] [] (n, K, L, I', J, G) 0 0
  | 0, v, I', hv, ho, hr, hm1, hm2 => by
    have e : v = 2 ^ N := by omega
    subst e
    obtain ⟨s1, s2, s3, s4, s5, s6, s7⟩ := ho.sm.st hst
    have hp := z_pow s6
    refine zW_ok hj B211_12 12 _ _ _ _ _ b211_12 ?_
    simp only [B211_12, zW, z_wp1, z_ld, z_f0, z_f1, z_f2, z_f3, List.getElem?_cons_zero, List.getElem?_cons_succ, true_and, and_true, Int32.reduceOfInt, z_i10, z_i01, Int32.reduceLT, Int32.reduceLE, Int32.reduceAdd, Int32.reduceSub, z_set, z_set2, z_kil, List.set_cons_zero, List.set_cons_succ, List.take_succ_cons, List.take_zero, List.drop_succ_cons, List.drop_zero, List.reverse_cons, List.reverse_nil, List.nil_append, List.cons_append, List.getD_cons_succ, List.getD_cons_zero, List.getD_nil, List.length_cons, List.length_nil, List.map_cons, List.map_nil, List.sum_cons, List.sum_nil, Nat.reduceAdd, Nat.reduceLeDiff, Value.category, Option.toList, true_or, or_true, z_ua, ↓reduceIte, Nat.reduceEqDiff, eq_self, not_true_eq_false, not_false_eq_true, false_implies, true_implies, Classical.not_not, Nat.le_refl, Nat.zero_le, sK71 hS, s5, z_shl1 (show N < 17 by omega)]
    try dsimp only
    refine ⟨fun _ => ?_, fun hc => absurd (nI_le (Nat.le_refl _) (by omega)) hc⟩
    refine zW_ok hj B211_161 161 _ _ _ _ _ b211_161 ?_
    simp only [B211_161, zW, z_wp1, z_ld, z_f0, z_f1, z_f2, z_f3, List.getElem?_cons_zero, List.getElem?_cons_succ, true_and, and_true, Int32.reduceOfInt, z_i10, z_i01, Int32.reduceLT, Int32.reduceLE, Int32.reduceAdd, Int32.reduceSub, z_set, z_set2, z_kil, List.set_cons_zero, List.set_cons_succ, List.take_succ_cons, List.take_zero, List.drop_succ_cons, List.drop_zero, List.reverse_cons, List.reverse_nil, List.nil_append, List.cons_append, List.getD_cons_succ, List.getD_cons_zero, List.getD_nil, List.length_cons, List.length_nil, List.map_cons, List.map_nil, List.sum_cons, List.sum_nil, Nat.reduceAdd, Nat.reduceLeDiff, Value.category, Option.toList, true_or, or_true, z_ua, ↓reduceIte, Nat.reduceEqDiff, eq_self, not_true_eq_false, not_false_eq_true, false_implies, true_implies, Classical.not_not, Nat.le_refl, Nat.zero_le]
    try dsimp only
    exact hQ _ _ ⟨rfl, I', rfl, ho, hm1, hm2⟩
  | k + 1, v, I', hv, ho, hr, hm1, hm2 => by
    have hst' := ho.sm.st hst
    obtain ⟨s1, s2, s3, s4, s5, s6, s7⟩ := id hst'
    have hp := z_pow s6
    have hl := m_rl_len (mS N) cl v
    have el : (nI (m_rl (mS N) cl v).length).toNatClampNeg = (m_rl (mS N) cl v).length := nI_clamp (by omega)
    have vl : vp_in (nI (m_rl (mS N) cl v).length) 4096 := vp_in_nI (by omega) (by omega)
    have go : ∀ (I2 : Nat → Nat → Int32) (x3 x4 x5 x6 : Option Value), mF I0 I2 → (∀ g, g < F → I2 86 g = row g) → I2 71 37 = nI (m_rl (mS N) cl (v + 1)).length → m_ls2 (I2 88) (I2 89) (m_rl (mS N) cl (v + 1)) → zV X 155 [some (.ref 71), some (.int mode), some (.int (nI v)), x3, x4, x5, x6] [] (n, K, L, I2, J, G) 0 0 := by
      intro I2 x3 x4 x5 x6 h1 h2 h3 h4
      refine zW_ok hj B211_155 155 _ _ _ _ _ b211_155 ?_
      simp only [B211_155, zW, z_wp1, z_ld, z_f0, z_f1, z_f2, z_f3, List.getElem?_cons_zero, List.getElem?_cons_succ, true_and, and_true, Int32.reduceOfInt, z_i10, z_i01, Int32.reduceLT, Int32.reduceLE, Int32.reduceAdd, Int32.reduceSub, z_set, z_set2, z_kil, List.set_cons_zero, List.set_cons_succ, List.take_succ_cons, List.take_zero, List.drop_succ_cons, List.drop_zero, List.reverse_cons, List.reverse_nil, List.nil_append, List.cons_append, List.getD_cons_succ, List.getD_cons_zero, List.getD_nil, List.length_cons, List.length_nil, List.map_cons, List.map_nil, List.sum_cons, List.sum_nil, Nat.reduceAdd, Nat.reduceLeDiff, Value.category, Option.toList, true_or, or_true, z_ua, ↓reduceIte, Nat.reduceEqDiff, eq_self, not_true_eq_false, not_false_eq_true, false_implies, true_implies, Classical.not_not, Nat.le_refl, Nat.zero_le, nI_1]
      try dsimp only
      exact (c211_loop (mode := mode) hS hj hd hm hs hst cl hcl hQ k (v + 1) I2 (by omega) h1 h2 h3 h4).weak (by simp only [z_le]; simp)
    have yes : (¬ cl (mS N v) = mS N v ∧ ∀ r ∈ m_rl (mS N) cl v, m_kp (mS N v) r) → ∀ x : Option Value, zV X 116 [some (.ref 71), some (.int mode), some (.int (nI v)), some (.int (mS N v)), some (.int (cl (mS N v))), some (.int 1), x] [] (n, K, L, I', J, G) 0 0 := by
      intro hy x
      have := go (z_u (z_u (z_u I' 88 (m_rl (mS N) cl v).length (mS N v)) 89 (m_rl (mS N) cl v).length (cl (mS N v))) 71 37 (nI ((m_rl (mS N) cl v).length + 1))) (some (.int (mS N v))) (some (.int (cl (mS N v)))) (some (.int 1)) x
        (((ho.p 88 _ _ (by unfold mP; omega)).p 89 _ _ (by unfold mP; omega)).s _ _ (by unfold mQ; omega)) (fun g hg => by rw [z_u_ne (by decide), z_u_ne (by decide), z_u_ne (by decide)]; exact hr g hg)
        (by rw [m_rl, if_pos hy]; simp [z_u]) (by
          rw [m_rl, if_pos hy]
          exact m_ls2_add hm2 (by simp [z_u]) (by simp [z_u]) (fun t ht => by simp [z_u, Nat.ne_of_lt ht]))
      refine zW_ok hj B211_116 116 _ _ _ _ _ b211_116 ?_
      simp only [B211_116, zW, z_wp1, z_ld, z_f0, z_f1, z_f2, z_f3, List.getElem?_cons_zero, List.getElem?_cons_succ, true_and, and_true, Int32.reduceOfInt, z_i10, z_i01, Int32.reduceLT, Int32.reduceLE, Int32.reduceAdd, Int32.reduceSub, z_set, z_set2, z_kil, List.set_cons_zero, List.set_cons_succ, List.take_succ_cons, List.take_zero, List.drop_succ_cons, List.drop_zero, List.reverse_cons, List.reverse_nil, List.nil_append, List.cons_append, List.getD_cons_succ, List.getD_cons_zero, List.getD_nil, List.length_cons, List.length_nil, List.map_cons, List.map_nil, List.sum_cons, List.sum_nil, Nat.reduceAdd, Nat.reduceLeDiff, Value.category, Option.toList, true_or, or_true, z_ua, ↓reduceIte, Nat.reduceEqDiff, eq_self, not_true_eq_false, not_false_eq_true, false_implies, true_implies, Classical.not_not, Nat.le_refl, Nat.zero_le]
      try dsimp only
      refine zW_ok hj B211_124 124 _ _ _ _ _ b211_124 ?_
      simp only [B211_124, zW, z_wp1, z_ld, z_f0, z_f1, z_f2, z_f3, List.getElem?_cons_zero, List.getElem?_cons_succ, true_and, and_true, Int32.reduceOfInt, z_i10, z_i01, Int32.reduceLT, Int32.reduceLE, Int32.reduceAdd, Int32.reduceSub, z_set, z_set2, z_kil, List.set_cons_zero, List.set_cons_succ, List.take_succ_cons, List.take_zero, List.drop_succ_cons, List.drop_zero, List.reverse_cons, List.reverse_nil, List.nil_append, List.cons_append, List.getD_cons_succ, List.getD_cons_zero, List.getD_nil, List.length_cons, List.length_nil, List.map_cons, List.map_nil, List.sum_cons, List.sum_nil, Nat.reduceAdd, Nat.reduceLeDiff, Value.category, Option.toList, true_or, or_true, z_ua, ↓reduceIte, Nat.reduceEqDiff, eq_self, not_true_eq_false, not_false_eq_true, false_implies, true_implies, Classical.not_not, Nat.le_refl, Nat.zero_le, sK71 hS, sG71_35 hS, sK88 hS, sL88 hS, sG71_36 hS, sK89 hS, sL89 hS, hm1, el, vl, nI_1]
      try dsimp only
      exact this
    have nono : ¬ (¬ cl (mS N v) = mS N v ∧ ∀ r ∈ m_rl (mS N) cl v, m_kp (mS N v) r) → ∀ x : Option Value, zV X 116 [some (.ref 71), some (.int mode), some (.int (nI v)), some (.int (mS N v)), some (.int (cl (mS N v))), some (.int 0), x] [] (n, K, L, I', J, G) 0 0 := by
      intro hn x
      refine zW_ok hj B211_116 116 _ _ _ _ _ b211_116 ?_
      simp only [B211_116, zW, z_wp1, z_ld, z_f0, z_f1, z_f2, z_f3, List.getElem?_cons_zero, List.getElem?_cons_succ, true_and, and_true, Int32.reduceOfInt, z_i10, z_i01, Int32.reduceLT, Int32.reduceLE, Int32.reduceAdd, Int32.reduceSub, z_set, z_set2, z_kil, List.set_cons_zero, List.set_cons_succ, List.take_succ_cons, List.take_zero, List.drop_succ_cons, List.drop_zero, List.reverse_cons, List.reverse_nil, List.nil_append, List.cons_append, List.getD_cons_succ, List.getD_cons_zero, List.getD_nil, List.length_cons, List.length_nil, List.map_cons, List.map_nil, List.sum_cons, List.sum_nil, Nat.reduceAdd, Nat.reduceLeDiff, Value.category, Option.toList, true_or, or_true, z_ua, ↓reduceIte, Nat.reduceEqDiff, eq_self, not_true_eq_false, not_false_eq_true, false_implies, true_implies, Classical.not_not, Nat.le_refl, Nat.zero_le]
      try dsimp only
      exact go I' _ _ _ _ ho hr (by rw [m_rl, if_neg hn]; exact hm1) (by rw [m_rl, if_neg hn]; exact hm2)
    refine zW_ok hj B211_12 12 _ _ _ _ _ b211_12 ?_
    simp only [B211_12, zW, z_wp1, z_ld, z_f0, z_f1, z_f2, z_f3, List.getElem?_cons_zero, List.getElem?_cons_succ, true_and, and_true, Int32.reduceOfInt, z_i10, z_i01, Int32.reduceLT, Int32.reduceLE, Int32.reduceAdd, Int32.reduceSub, z_set, z_set2, z_kil, List.set_cons_zero, List.set_cons_succ, List.take_succ_cons, List.take_zero, List.drop_succ_cons, List.drop_zero, List.reverse_cons, List.reverse_nil, List.nil_append, List.cons_append, List.getD_cons_succ, List.getD_cons_zero, List.getD_nil, List.length_cons, List.length_nil, List.map_cons, List.map_nil, List.sum_cons, List.sum_nil, Nat.reduceAdd, Nat.reduceLeDiff, Value.category, Option.toList, true_or, or_true, z_ua, ↓reduceIte, Nat.reduceEqDiff, eq_self, not_true_eq_false, not_false_eq_true, false_implies, true_implies, Classical.not_not, Nat.le_refl, Nat.zero_le, sK71 hS, s5, z_shl1 (show N < 17 by omega)]
    try dsimp only
    refine ⟨fun hc => absurd hc (nI_ge (by omega) (by omega)), fun _ => ?_⟩
    refine z_callD (c206 (N := N) (by omega) (nI v)) (by omega) (by omega) (by omega) (Nat.le_of_ble_eq_true rfl) ?_
    try simp only [zW, z_wp1, z_ld, z_f0, z_f1, z_f2, z_f3, List.getElem?_cons_zero, List.getElem?_cons_succ, true_and, and_true, Int32.reduceOfInt, z_i10, z_i01, Int32.reduceLT, Int32.reduceLE, Int32.reduceAdd, Int32.reduceSub, z_set, z_set2, z_kil, List.set_cons_zero, List.set_cons_succ, List.take_succ_cons, List.take_zero, List.drop_succ_cons, List.drop_zero, List.reverse_cons, List.reverse_nil, List.nil_append, List.cons_append, List.getD_cons_succ, List.getD_cons_zero, List.getD_nil, List.length_cons, List.length_nil, List.map_cons, List.map_nil, List.sum_cons, List.sum_nil, Nat.reduceAdd, Nat.reduceLeDiff, Value.category, Option.toList, true_or, or_true, z_ua, ↓reduceIte, Nat.reduceEqDiff, eq_self, not_true_eq_false, not_false_eq_true, false_implies, true_implies, Classical.not_not, Nat.le_refl, Nat.zero_le, sK71 hS]
    try dsimp only
    refine z_callD (c204n hS hst' row hr (mS N v)) (by omega) (by omega) (by omega) (Nat.le_of_ble_eq_true rfl) ?_
    try simp only [zW, z_wp1, z_ld, z_f0, z_f1, z_f2, z_f3, List.getElem?_cons_zero, List.getElem?_cons_succ, true_and, and_true, Int32.reduceOfInt, z_i10, z_i01, Int32.reduceLT, Int32.reduceLE, Int32.reduceAdd, Int32.reduceSub, z_set, z_set2, z_kil, List.set_cons_zero, List.set_cons_succ, List.take_succ_cons, List.take_zero, List.drop_succ_cons, List.drop_zero, List.reverse_cons, List.reverse_nil, List.nil_append, List.cons_append, List.getD_cons_succ, List.getD_cons_zero, List.getD_nil, List.length_cons, List.length_nil, List.map_cons, List.map_nil, List.sum_cons, List.sum_nil, Nat.reduceAdd, Nat.reduceLeDiff, Value.category, Option.toList, true_or, or_true, z_ua, ↓reduceIte, Nat.reduceEqDiff, eq_self, not_true_eq_false, not_false_eq_true, false_implies, true_implies, Classical.not_not, Nat.le_refl, Nat.zero_le]
    try dsimp only
    rw [← hcl]
    refine ⟨fun h1 => ?_, fun h1 => ?_⟩
    · -- closed: no premise
      have nn := nono (fun z => z.1 h1)
      refine zW_ok hj B211_49 49 _ _ _ _ _ b211_49 ?_
      simp only [B211_49, zW, z_wp1, z_ld, z_f0, z_f1, z_f2, z_f3, List.getElem?_cons_zero, List.getElem?_cons_succ, true_and, and_true, Int32.reduceOfInt, z_i10, z_i01, Int32.reduceLT, Int32.reduceLE, Int32.reduceAdd, Int32.reduceSub, z_set, z_set2, z_kil, List.set_cons_zero, List.set_cons_succ, List.take_succ_cons, List.take_zero, List.drop_succ_cons, List.drop_zero, List.reverse_cons, List.reverse_nil, List.nil_append, List.cons_append, List.getD_cons_succ, List.getD_cons_zero, List.getD_nil, List.length_cons, List.length_nil, List.map_cons, List.map_nil, List.sum_cons, List.sum_nil, Nat.reduceAdd, Nat.reduceLeDiff, Value.category, Option.toList, true_or, or_true, z_ua, ↓reduceIte, Nat.reduceEqDiff, eq_self, not_true_eq_false, not_false_eq_true, false_implies, true_implies, Classical.not_not, Nat.le_refl, Nat.zero_le]
      try dsimp only
      refine zW_ok hj B211_50 50 _ _ _ _ _ b211_50 ?_
      simp only [B211_50, zW, z_wp1, z_ld, z_f0, z_f1, z_f2, z_f3, List.getElem?_cons_zero, List.getElem?_cons_succ, true_and, and_true, Int32.reduceOfInt, z_i10, z_i01, Int32.reduceLT, Int32.reduceLE, Int32.reduceAdd, Int32.reduceSub, z_set, z_set2, z_kil, List.set_cons_zero, List.set_cons_succ, List.take_succ_cons, List.take_zero, List.drop_succ_cons, List.drop_zero, List.reverse_cons, List.reverse_nil, List.nil_append, List.cons_append, List.getD_cons_succ, List.getD_cons_zero, List.getD_nil, List.length_cons, List.length_nil, List.map_cons, List.map_nil, List.sum_cons, List.sum_nil, Nat.reduceAdd, Nat.reduceLeDiff, Value.category, Option.toList, true_or, or_true, z_ua, ↓reduceIte, Nat.reduceEqDiff, eq_self, not_true_eq_false, not_false_eq_true, false_implies, true_implies, Classical.not_not, Nat.le_refl, Nat.zero_le]
      try dsimp only
      refine zW_ok hj B211_55 55 _ _ _ _ _ b211_55 ?_
      simp only [B211_55, zW, z_wp1, z_ld, z_f0, z_f1, z_f2, z_f3, List.getElem?_cons_zero, List.getElem?_cons_succ, true_and, and_true, Int32.reduceOfInt, z_i10, z_i01, Int32.reduceLT, Int32.reduceLE, Int32.reduceAdd, Int32.reduceSub, z_set, z_set2, z_kil, List.set_cons_zero, List.set_cons_succ, List.take_succ_cons, List.take_zero, List.drop_succ_cons, List.drop_zero, List.reverse_cons, List.reverse_nil, List.nil_append, List.cons_append, List.getD_cons_succ, List.getD_cons_zero, List.getD_nil, List.length_cons, List.length_nil, List.map_cons, List.map_nil, List.sum_cons, List.sum_nil, Nat.reduceAdd, Nat.reduceLeDiff, Value.category, Option.toList, true_or, or_true, z_ua, ↓reduceIte, Nat.reduceEqDiff, eq_self, not_true_eq_false, not_false_eq_true, false_implies, true_implies, Classical.not_not, Nat.le_refl, Nat.zero_le, sK71 hS, hm1]
      try dsimp only
      exact ⟨fun _ => nn _, fun _ => nn _⟩
    · refine zW_ok hj B211_50 50 _ _ _ _ _ b211_50 ?_
      simp only [B211_50, zW, z_wp1, z_ld, z_f0, z_f1, z_f2, z_f3, List.getElem?_cons_zero, List.getElem?_cons_succ, true_and, and_true, Int32.reduceOfInt, z_i10, z_i01, Int32.reduceLT, Int32.reduceLE, Int32.reduceAdd, Int32.reduceSub, z_set, z_set2, z_kil, List.set_cons_zero, List.set_cons_succ, List.take_succ_cons, List.take_zero, List.drop_succ_cons, List.drop_zero, List.reverse_cons, List.reverse_nil, List.nil_append, List.cons_append, List.getD_cons_succ, List.getD_cons_zero, List.getD_nil, List.length_cons, List.length_nil, List.map_cons, List.map_nil, List.sum_cons, List.sum_nil, Nat.reduceAdd, Nat.reduceLeDiff, Value.category, Option.toList, true_or, or_true, z_ua, ↓reduceIte, Nat.reduceEqDiff, eq_self, not_true_eq_false, not_false_eq_true, false_implies, true_implies, Classical.not_not, Nat.le_refl, Nat.zero_le]
      try dsimp only
      exact c211_in hS hj hm1 hm2 (by omega) yes nono h1 _ 0 rfl (Nat.zero_le _) (fun r hr => by simp at hr)
/-- findRules -/
theorem c211 (hS : SS K L G) (hst : m_st I c F N tr) (mode : Int32) : z_Ctr l 4 211 [.ref 71, .int mode] (n, K, L, I, J, G) 0 0 (fun r h' => r = none ∧ ∃ I', h' = (n, K, L, I', J, G) ∧ mF I I' ∧ I' 71 37 = nI (m_rl (mS N) (mC I c F N tr mode) (2 ^ N)).length ∧ m_ls2 (I' 88) (I' 89) (m_rl (mS N) (mC I c F N tr mode) (2 ^ N))) := by
  refine z_ctr (by decide) (by decide +kernel) (Nat.le_of_ble_eq_true rfl) (by decide +kernel) (fun X hl hj hd hm hs hsc hQ => ?_)
  show zV X 0 [some (.ref 71), some (.int mode), none, none, none, none, none] [] _ 0 0
  refine zW_ok hj B211_0 0 _ _ _ _ _ b211_0 ?_
  simp only [B211_0, zW, z_wp1, z_ld, z_f0, z_f1, z_f2, z_f3, List.getElem?_cons_zero, List.getElem?_cons_succ, true_and, and_true, Int32.reduceOfInt, z_i10, z_i01, Int32.reduceLT, Int32.reduceLE, Int32.reduceAdd, Int32.reduceSub, z_set, z_set2, z_kil, List.set_cons_zero, List.set_cons_succ, List.take_succ_cons, List.take_zero, List.drop_succ_cons, List.drop_zero, List.reverse_cons, List.reverse_nil, List.nil_append, List.cons_append, List.getD_cons_succ, List.getD_cons_zero, List.getD_nil, List.length_cons, List.length_nil, List.map_cons, List.map_nil, List.sum_cons, List.sum_nil, Nat.reduceAdd, Nat.reduceLeDiff, Value.category, Option.toList, true_or, or_true, z_ua, ↓reduceIte, Nat.reduceEqDiff, eq_self, not_true_eq_false, not_false_eq_true, false_implies, true_implies, Classical.not_not, Nat.le_refl, Nat.zero_le, sK71 hS]
  try dsimp only
  refine z_callQ (c198 hS hst mode) (by omega) (by omega) (by omega) (Nat.le_of_ble_eq_true rfl) ?_
  rintro r h' ⟨rfl, I', rfl, ho, hr⟩
  simp only [zW, z_wp1, z_ld, z_f0, z_f1, z_f2, z_f3, List.getElem?_cons_zero, List.getElem?_cons_succ, true_and, and_true, Int32.reduceOfInt, z_i10, z_i01, Int32.reduceLT, Int32.reduceLE, Int32.reduceAdd, Int32.reduceSub, z_set, z_set2, z_kil, List.set_cons_zero, List.set_cons_succ, List.take_succ_cons, List.take_zero, List.drop_succ_cons, List.drop_zero, List.reverse_cons, List.reverse_nil, List.nil_append, List.cons_append, List.getD_cons_succ, List.getD_cons_zero, List.getD_nil, List.length_cons, List.length_nil, List.map_cons, List.map_nil, List.sum_cons, List.sum_nil, Nat.reduceAdd, Nat.reduceLeDiff, Value.category, Option.toList, true_or, or_true, z_ua, ↓reduceIte, Nat.reduceEqDiff, eq_self, not_true_eq_false, not_false_eq_true, false_implies, true_implies, Classical.not_not, Nat.le_refl, Nat.zero_le, sK71 hS]
  try dsimp only
  refine c211_loop hS hj hd hm hs hst (mC I c F N tr mode) (row := mR I c N tr mode) (fun s => rfl) hQ (2 ^ N) 0 (z_u I' 71 37 0) (by omega) (ho.F.s _ _ (by unfold mQ; omega)) (fun g hg => by rw [z_u_ne (by decide)]; exact hr g hg) (by simp [z_u, m_rl]; rfl) (fun t x hx => by simp [m_rl] at hx)
/-- rules -/
theorem c212a (hS : SS K L G) (hst : m_st I c F N tr) {mode : Int32} (hmd : mode = 0 ∨ mode = 1) : z_Ctr l 5 212 [.ref 71, .int mode] (n, K, L, I, J, G) 0 0 (fun r h' => r = some (.int (nI (m_rl (mS N) (mC I c F N tr mode) (2 ^ N)).length)) ∧ ∃ I', h' = (n, K, L, I', J, G) ∧ mF I I') := by
  have hst' := (m_sm.t I).st hst
  refine z_ctr (by decide) (by decide +kernel) (Nat.le_of_ble_eq_true rfl) (by decide +kernel) (fun X hl hj hd hm hs hsc hQ => ?_)
  show zV X 0 [some (.ref 71), some (.int mode)] [] _ 0 0
  refine zW_ok hj B212_0 0 _ _ _ _ _ b212_0 ?_
  simp only [B212_0, zW, z_wp1, z_ld, z_f0, z_f1, z_f2, z_f3, List.getElem?_cons_zero, List.getElem?_cons_succ, true_and, and_true, Int32.reduceOfInt, z_i10, z_i01, Int32.reduceLT, Int32.reduceLE, Int32.reduceAdd, Int32.reduceSub, z_set, z_set2, z_kil, List.set_cons_zero, List.set_cons_succ, List.take_succ_cons, List.take_zero, List.drop_succ_cons, List.drop_zero, List.reverse_cons, List.reverse_nil, List.nil_append, List.cons_append, List.getD_cons_succ, List.getD_cons_zero, List.getD_nil, List.length_cons, List.length_nil, List.map_cons, List.map_nil, List.sum_cons, List.sum_nil, Nat.reduceAdd, Nat.reduceLeDiff, Value.category, Option.toList, true_or, or_true, z_ua, ↓reduceIte, Nat.reduceEqDiff, eq_self, not_true_eq_false, not_false_eq_true, false_implies, true_implies, Classical.not_not, Nat.le_refl, Nat.zero_le, sK71 hS]
  try dsimp only
  refine z_callD (c199 mode) (by omega) (by omega) (by omega) (Nat.le_of_ble_eq_true rfl) ?_
  try simp only [zW, z_wp1, z_ld, z_f0, z_f1, z_f2, z_f3, List.getElem?_cons_zero, List.getElem?_cons_succ, true_and, and_true, Int32.reduceOfInt, z_i10, z_i01, Int32.reduceLT, Int32.reduceLE, Int32.reduceAdd, Int32.reduceSub, z_set, z_set2, z_kil, List.set_cons_zero, List.set_cons_succ, List.take_succ_cons, List.take_zero, List.drop_succ_cons, List.drop_zero, List.reverse_cons, List.reverse_nil, List.nil_append, List.cons_append, List.getD_cons_succ, List.getD_cons_zero, List.getD_nil, List.length_cons, List.length_nil, List.map_cons, List.map_nil, List.sum_cons, List.sum_nil, Nat.reduceAdd, Nat.reduceLeDiff, Value.category, Option.toList, true_or, or_true, z_ua, ↓reduceIte, Nat.reduceEqDiff, eq_self, not_true_eq_false, not_false_eq_true, false_implies, true_implies, Classical.not_not, Nat.le_refl, Nat.zero_le, sK71 hS, z_b1 hmd]
  try dsimp only
  refine zW_ok hj B212_15 15 _ _ _ _ _ b212_15 ?_
  simp only [B212_15, zW, z_wp1, z_ld, z_f0, z_f1, z_f2, z_f3, List.getElem?_cons_zero, List.getElem?_cons_succ, true_and, and_true, Int32.reduceOfInt, z_i10, z_i01, Int32.reduceLT, Int32.reduceLE, Int32.reduceAdd, Int32.reduceSub, z_set, z_set2, z_kil, List.set_cons_zero, List.set_cons_succ, List.take_succ_cons, List.take_zero, List.drop_succ_cons, List.drop_zero, List.reverse_cons, List.reverse_nil, List.nil_append, List.cons_append, List.getD_cons_succ, List.getD_cons_zero, List.getD_nil, List.length_cons, List.length_nil, List.map_cons, List.map_nil, List.sum_cons, List.sum_nil, Nat.reduceAdd, Nat.reduceLeDiff, Value.category, Option.toList, true_or, or_true, z_ua, ↓reduceIte, Nat.reduceEqDiff, eq_self, not_true_eq_false, not_false_eq_true, false_implies, true_implies, Classical.not_not, Nat.le_refl, Nat.zero_le, sK71 hS]
  try dsimp only
  refine z_callQ (c211 (I := m_t I) hS hst' mode) (by omega) (by omega) (by omega) (Nat.le_of_ble_eq_true rfl) ?_
  rintro r h' ⟨rfl, I', rfl, ho, h1, h2⟩
  simp only [zW, z_wp1, z_ld, z_f0, z_f1, z_f2, z_f3, List.getElem?_cons_zero, List.getElem?_cons_succ, true_and, and_true, Int32.reduceOfInt, z_i10, z_i01, Int32.reduceLT, Int32.reduceLE, Int32.reduceAdd, Int32.reduceSub, z_set, z_set2, z_kil, List.set_cons_zero, List.set_cons_succ, List.take_succ_cons, List.take_zero, List.drop_succ_cons, List.drop_zero, List.reverse_cons, List.reverse_nil, List.nil_append, List.cons_append, List.getD_cons_succ, List.getD_cons_zero, List.getD_nil, List.length_cons, List.length_nil, List.map_cons, List.map_nil, List.sum_cons, List.sum_nil, Nat.reduceAdd, Nat.reduceLeDiff, Value.category, Option.toList, true_or, or_true, z_ua, ↓reduceIte, Nat.reduceEqDiff, eq_self, not_true_eq_false, not_false_eq_true, false_implies, true_implies, Classical.not_not, Nat.le_refl, Nat.zero_le, sK71 hS]
  try dsimp only
  exact hQ _ _ ⟨by rw [h1]; rfl, I', rfl, (mF.t I).tr ho⟩
theorem c212b (hS : SS K L G) {mode : Int32} (hmd : ¬ (mode = 0 ∨ mode = 1)) : z_D l 5 212 [.ref 71, .int mode] (n, K, L, I, J, G) (some (.int (-1))) (n, K, L, m_t I, J, G) := by
  refine z_ctr (by decide) (by decide +kernel) (Nat.le_of_ble_eq_true rfl) (by decide +kernel) (fun X hl hj hd hm hs hsc hQ => ?_)
  show zV X 0 [some (.ref 71), some (.int mode)] [] _ 0 0
  refine zW_ok hj B212_0 0 _ _ _ _ _ b212_0 ?_
  simp only [B212_0, zW, z_wp1, z_ld, z_f0, z_f1, z_f2, z_f3, List.getElem?_cons_zero, List.getElem?_cons_succ, true_and, and_true, Int32.reduceOfInt, z_i10, z_i01, Int32.reduceLT, Int32.reduceLE, Int32.reduceAdd, Int32.reduceSub, z_set, z_set2, z_kil, List.set_cons_zero, List.set_cons_succ, List.take_succ_cons, List.take_zero, List.drop_succ_cons, List.drop_zero, List.reverse_cons, List.reverse_nil, List.nil_append, List.cons_append, List.getD_cons_succ, List.getD_cons_zero, List.getD_nil, List.length_cons, List.length_nil, List.map_cons, List.map_nil, List.sum_cons, List.sum_nil, Nat.reduceAdd, Nat.reduceLeDiff, Value.category, Option.toList, true_or, or_true, z_ua, ↓reduceIte, Nat.reduceEqDiff, eq_self, not_true_eq_false, not_false_eq_true, false_implies, true_implies, Classical.not_not, Nat.le_refl, Nat.zero_le, sK71 hS]
  try dsimp only
  refine z_callD (c199 mode) (by omega) (by omega) (by omega) (Nat.le_of_ble_eq_true rfl) ?_
  try simp only [zW, z_wp1, z_ld, z_f0, z_f1, z_f2, z_f3, List.getElem?_cons_zero, List.getElem?_cons_succ, true_and, and_true, Int32.reduceOfInt, z_i10, z_i01, Int32.reduceLT, Int32.reduceLE, Int32.reduceAdd, Int32.reduceSub, z_set, z_set2, z_kil, List.set_cons_zero, List.set_cons_succ, List.take_succ_cons, List.take_zero, List.drop_succ_cons, List.drop_zero, List.reverse_cons, List.reverse_nil, List.nil_append, List.cons_append, List.getD_cons_succ, List.getD_cons_zero, List.getD_nil, List.length_cons, List.length_nil, List.map_cons, List.map_nil, List.sum_cons, List.sum_nil, Nat.reduceAdd, Nat.reduceLeDiff, Value.category, Option.toList, true_or, or_true, z_ua, ↓reduceIte, Nat.reduceEqDiff, eq_self, not_true_eq_false, not_false_eq_true, false_implies, true_implies, Classical.not_not, Nat.le_refl, Nat.zero_le, sK71 hS, z_b0 hmd]
  try dsimp only
  exact hQ _ _ ⟨rfl, rfl⟩
end M11
