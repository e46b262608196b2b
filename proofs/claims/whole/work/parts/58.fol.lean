/-! The model: rules followed -/
def z_mis (s : Int32) : Nat → Nat
  | 0 => 0
  | i + 1 => z_mis s i + (if zb s i = true then 0 else 1)
theorem z_mis_le {s t : Int32} (h : ∀ i, zb s i = true → zb t i = true) : ∀ N, z_mis t N ≤ z_mis s N
  | 0 => Nat.le_refl _
  | i + 1 => by
    have ih := z_mis_le h i
    simp only [z_mis]
    by_cases hs : zb s i = true
    · rw [if_pos hs, if_pos (h i hs)]; omega
    · rw [if_neg hs]
      split <;> omega
theorem z_mis_lt {s t : Int32} (h : ∀ i, zb s i = true → zb t i = true) {j : Nat} (h1 : zb s j = false) (h2 : zb t j = true) : ∀ {N : Nat}, j < N → z_mis t N < z_mis s N
  | 0, hj => by omega
  | i + 1, hj => by
    simp only [z_mis]
    by_cases e : j = i
    · subst e
      have := z_mis_le h j
      rw [if_pos h2, if_neg (by rw [h1]; decide)]
      omega
    · have ih := z_mis_lt h h1 h2 (N := i) (by omega)
      by_cases hs : zb s i = true
      · rw [if_pos hs, if_pos (h i hs)]; omega
      · rw [if_neg hs]
        split <;> omega
theorem z_mis_N (s : Int32) : ∀ N, z_mis s N ≤ N
  | 0 => Nat.le_refl _
  | i + 1 => by
    have := z_mis_N s i
    simp only [z_mis]
    split <;> omega
theorem m_ft_new {LL : List (Int32 × Int32)} {N : Nat} (hr : ∀ r ∈ LL, ∀ b, N ≤ b → zb r.2 b = false) {has : Int32} {k : Nat} (h : m_ft has LL 0 = some k) : ∃ r, LL[k]? = some r ∧ ∃ j, j < N ∧ zb has j = false ∧ zb r.2 j = true := by
  obtain ⟨_, h2, r, h3, h4, h5⟩ := m_ft_some h
  rw [Nat.sub_zero] at h3
  refine ⟨r, h3, ?_⟩
  apply Classical.byContradiction
  intro hn
  refine h5 (zb_sub'.mpr (fun i hi => ?_))
  cases hz : zb has i with
  | true => rfl
  | false =>
    have hiN : i < N := by
      rcases Nat.lt_or_ge i N with q | q
      · exact q
      · rw [hr r (List.mem_of_getElem? h3) i q] at hi; cases hi
    exact absurd ⟨i, hiN, hz, hi⟩ hn
theorem m_wk_end {LL : List (Int32 × Int32)} {N : Nat} (hr : ∀ r ∈ LL, ∀ b, N ≤ b → zb r.2 b = false) : ∀ (k : Nat) (has : Int32), z_mis has N ≤ k → m_ft (m_wk LL k has).2 LL 0 = none
  | 0, has, h => by
    rw [m_wk]
    cases ho : m_ft has LL 0 with
    | none => rfl
    | some i =>
      obtain ⟨r, h3, j, hj, h4, h5⟩ := m_ft_new hr ho
      have := z_mis_lt (s := has) (t := has ||| r.2) (fun i hi => by rw [zb_or, hi]; rfl) h4 (by rw [zb_or, h5]; simp) hj
      omega
  | k + 1, has, h => by
    cases ho : m_ft has LL 0 with
    | none => rw [m_wk_n ho]; exact ho
    | some i =>
      obtain ⟨r, h3, j, hj, h4, h5⟩ := m_ft_new hr ho
      have hlt := z_mis_lt (s := has) (t := has ||| r.2) (fun i hi => by rw [zb_or, hi]; rfl) h4 (by rw [zb_or, h5]; simp) hj
      rw [m_wk_s ho]
      have e : (LL.getD i (0, 0)).2 = r.2 := by rw [List.getD_eq_getElem?_getD, h3]; rfl
      simp only [e]
      exact m_wk_end hr k _ (by omega)
def m_fa (w : Int32) : List Nat → Nat → Int32 → Int32
  | [], _, a => a
  | k :: r, n, a => m_fa w r (n + 1) (if w = 10 + nI n then nI k else a)
def m_fol (LL : List (Int32 × Int32)) (set w : Int32) : Int32 := if w = 0 then (m_wk LL 12 set).2 else if w = 1 then nI (m_wk LL 12 set).1.length else m_fa w (m_wk LL 12 set).1 0 (-1)
section FOL
variable {l : Launch} {n : Nat} {K L : Nat → Nat} {I : Nat → Nat → Int32} {J : Nat → Nat → Int64} {G : Nat → Nat → Value} {c F N : Nat} {tr : Nat → (Int32 → Int32) → Int32}
theorem c214_in {X : zX} (hS : SS K L G) (hj : X.2.1 = 214) {LL : List (Int32 × Int32)} (h1 : I 71 37 = nI LL.length) (h2 : m_ls2 (I 88) (I 89) LL) (hlen : LL.length ≤ 4096) {mode set w has asked : Int32} {steps : Nat} {o : Option Nat} (kn : o = none → ∀ x8 : Option Value, zV X 148 [some (.ref 71), some (.int mode), some (.int set), some (.int w), some (.int has), some (.int (nI steps)), some (.int asked), some (.int 0), x8] [] (n, K, L, I, J, G) 0 0) (ks : ∀ k r, o = some k → LL[k]? = some r → ∀ x8 : Option Value, zV X 148 [some (.ref 71), some (.int mode), some (.int set), some (.int w), some (.int (has ||| r.2)), some (.int (nI (steps + 1))), some (.int (if w = 10 + nI steps then nI k else asked)), some (.int 1), x8] [] (n, K, L, I, J, G) 0 0) : ∀ (rest : List (Int32 × Int32)) (i : Nat), LL.drop i = rest → i ≤ LL.length → m_ft has rest i = o → zV X 51 [some (.ref 71), some (.int mode), some (.int set), some (.int w), some (.int has), some (.int (nI steps)), some (.int asked), some (.int 0), some (.int (nI i))] [] (n, K, L, I, J, G) 0 0
  | [], i, hr, hi, hv => by
    have e : i = LL.length := by
      have : (LL.drop i).length = 0 := by rw [hr]; rfl
      rw [List.length_drop] at this
      omega
    subst e
    refine zW_ok hj B214_51 51 _ _ _ _ _ b214_51 ?_
    simp only [B214_51, zW, z_wp1, z_ld, z_f0, z_f1, z_f2, z_f3, List.getElem?_cons_zero, List.getElem?_cons_succ, true_and, and_true, Int32.reduceOfInt, z_i10, z_i01, Int32.reduceLT, Int32.reduceLE, Int32.reduceAdd, Int32.reduceSub, z_set, z_set2, z_kil, List.set_cons_zero, List.set_cons_succ, List.take_succ_cons, List.take_zero, List.drop_succ_cons, List.drop_zero, List.reverse_cons, List.reverse_nil, List.nil_append, List.cons_append, List.getD_cons_succ, List.getD_cons_zero, List.getD_nil, List.length_cons, List.length_nil, List.map_cons, List.map_nil, List.sum_cons, List.sum_nil, Nat.reduceAdd, Nat.reduceLeDiff, Value.category, Option.toList, true_or, or_true, z_ua, ↓reduceIte, Nat.reduceEqDiff, eq_self, not_true_eq_false, not_false_eq_true, false_implies, true_implies, Classical.not_not, Nat.le_refl, Nat.zero_le, sK71 hS, h1]
    try dsimp only
    refine ⟨fun _ => kn (by rw [← hv]; rfl) _, fun hc => absurd (nI_le (Nat.le_refl _) (by omega)) hc⟩
  | y :: rest, i, hr, hi, hv => by
    have hl : i < LL.length := by
      have : 0 < (LL.drop i).length := by rw [hr]; simp
      rw [List.length_drop] at this
      omega
    have hy0 : LL[i]? = some y := by
      have : (LL.drop i)[0]? = some y := by rw [hr]; rfl
      rwa [List.getElem?_drop, Nat.add_zero] at this
    obtain ⟨hy, hy2⟩ := h2 i y hy0
    have hr' : LL.drop (i + 1) = rest := by rw [← List.drop_drop, hr]; rfl
    have e2 : (nI i).toNatClampNeg = i := nI_clamp (by omega)
    have e3 : vp_in (nI i) 4096 := vp_in_nI (by omega) (by omega)
    have go : ¬ (y.1 &&& has = y.1 ∧ ¬ y.2 &&& has = y.2) → zV X 142 [some (.ref 71), some (.int mode), some (.int set), some (.int w), some (.int has), some (.int (nI steps)), some (.int asked), some (.int 0), some (.int (nI i))] [] (n, K, L, I, J, G) 0 0 := by
      intro hn
      refine zW_ok hj B214_142 142 _ _ _ _ _ b214_142 ?_
      simp only [B214_142, zW, z_wp1, z_ld, z_f0, z_f1, z_f2, z_f3, List.getElem?_cons_zero, List.getElem?_cons_succ, true_and, and_true, Int32.reduceOfInt, z_i10, z_i01, Int32.reduceLT, Int32.reduceLE, Int32.reduceAdd, Int32.reduceSub, z_set, z_set2, z_kil, List.set_cons_zero, List.set_cons_succ, List.take_succ_cons, List.take_zero, List.drop_succ_cons, List.drop_zero, List.reverse_cons, List.reverse_nil, List.nil_append, List.cons_append, List.getD_cons_succ, List.getD_cons_zero, List.getD_nil, List.length_cons, List.length_nil, List.map_cons, List.map_nil, List.sum_cons, List.sum_nil, Nat.reduceAdd, Nat.reduceLeDiff, Value.category, Option.toList, true_or, or_true, z_ua, ↓reduceIte, Nat.reduceEqDiff, eq_self, not_true_eq_false, not_false_eq_true, false_implies, true_implies, Classical.not_not, Nat.le_refl, Nat.zero_le, nI_1]
      try dsimp only
      exact c214_in hS hj h1 h2 hlen kn ks rest (i + 1) hr' (by omega) (by rw [← hv, m_ft, if_neg hn])
    refine zW_ok hj B214_51 51 _ _ _ _ _ b214_51 ?_
    simp only [B214_51, zW, z_wp1, z_ld, z_f0, z_f1, z_f2, z_f3, List.getElem?_cons_zero, List.getElem?_cons_succ, true_and, and_true, Int32.reduceOfInt, z_i10, z_i01, Int32.reduceLT, Int32.reduceLE, Int32.reduceAdd, Int32.reduceSub, z_set, z_set2, z_kil, List.set_cons_zero, List.set_cons_succ, List.take_succ_cons, List.take_zero, List.drop_succ_cons, List.drop_zero, List.reverse_cons, List.reverse_nil, List.nil_append, List.cons_append, List.getD_cons_succ, List.getD_cons_zero, List.getD_nil, List.length_cons, List.length_nil, List.map_cons, List.map_nil, List.sum_cons, List.sum_nil, Nat.reduceAdd, Nat.reduceLeDiff, Value.category, Option.toList, true_or, or_true, z_ua, ↓reduceIte, Nat.reduceEqDiff, eq_self, not_true_eq_false, not_false_eq_true, false_implies, true_implies, Classical.not_not, Nat.le_refl, Nat.zero_le, sK71 hS, h1, sG71_35 hS, sK88 hS, sL88 hS, sG71_36 hS, sK89 hS, sL89 hS, e2, e3, hy, hy2]
    try dsimp only
    refine ⟨fun hc => absurd hc (nI_ge (by omega) (by omega)), fun _ => ⟨fun a => go (fun q => a q.1), fun a => ⟨fun b => ?_, fun b => go (fun q => q.2 b)⟩⟩⟩
    have ho : o = some i := by rw [← hv, m_ft, if_pos ⟨a, b⟩]
    have ke := ks i y ho hy0
    have fin : ∀ z : Int32, z = (if w = 10 + nI steps then nI i else asked) → zV X 133 [some (.ref 71), some (.int mode), some (.int set), some (.int w), some (.int (has ||| y.2)), some (.int (nI steps)), some (.int z), some (.int 0), some (.int (nI i))] [] (n, K, L, I, J, G) 0 0 := by
      intro z hz
      subst hz
      refine zW_ok hj B214_133 133 _ _ _ _ _ b214_133 ?_
      simp only [B214_133, zW, z_wp1, z_ld, z_f0, z_f1, z_f2, z_f3, List.getElem?_cons_zero, List.getElem?_cons_succ, true_and, and_true, Int32.reduceOfInt, z_i10, z_i01, Int32.reduceLT, Int32.reduceLE, Int32.reduceAdd, Int32.reduceSub, z_set, z_set2, z_kil, List.set_cons_zero, List.set_cons_succ, List.take_succ_cons, List.take_zero, List.drop_succ_cons, List.drop_zero, List.reverse_cons, List.reverse_nil, List.nil_append, List.cons_append, List.getD_cons_succ, List.getD_cons_zero, List.getD_nil, List.length_cons, List.length_nil, List.map_cons, List.map_nil, List.sum_cons, List.sum_nil, Nat.reduceAdd, Nat.reduceLeDiff, Value.category, Option.toList, true_or, or_true, z_ua, ↓reduceIte, Nat.reduceEqDiff, eq_self, not_true_eq_false, not_false_eq_true, false_implies, true_implies, Classical.not_not, Nat.le_refl, Nat.zero_le, nI_1]
      try dsimp only
      refine zW_ok hj B214_142 142 _ _ _ _ _ b214_142 ?_
      simp only [B214_142, zW, z_wp1, z_ld, z_f0, z_f1, z_f2, z_f3, List.getElem?_cons_zero, List.getElem?_cons_succ, true_and, and_true, Int32.reduceOfInt, z_i10, z_i01, Int32.reduceLT, Int32.reduceLE, Int32.reduceAdd, Int32.reduceSub, z_set, z_set2, z_kil, List.set_cons_zero, List.set_cons_succ, List.take_succ_cons, List.take_zero, List.drop_succ_cons, List.drop_zero, List.reverse_cons, List.reverse_nil, List.nil_append, List.cons_append, List.getD_cons_succ, List.getD_cons_zero, List.getD_nil, List.length_cons, List.length_nil, List.map_cons, List.map_nil, List.sum_cons, List.sum_nil, Nat.reduceAdd, Nat.reduceLeDiff, Value.category, Option.toList, true_or, or_true, z_ua, ↓reduceIte, Nat.reduceEqDiff, eq_self, not_true_eq_false, not_false_eq_true, false_implies, true_implies, Classical.not_not, Nat.le_refl, Nat.zero_le, nI_1]
      try dsimp only
      refine zW_ok hj B214_51 51 _ _ _ _ _ b214_51 ?_
      simp only [B214_51, zW, z_wp1, z_ld, z_f0, z_f1, z_f2, z_f3, List.getElem?_cons_zero, List.getElem?_cons_succ, true_and, and_true, Int32.reduceOfInt, z_i10, z_i01, Int32.reduceLT, Int32.reduceLE, Int32.reduceAdd, Int32.reduceSub, z_set, z_set2, z_kil, List.set_cons_zero, List.set_cons_succ, List.take_succ_cons, List.take_zero, List.drop_succ_cons, List.drop_zero, List.reverse_cons, List.reverse_nil, List.nil_append, List.cons_append, List.getD_cons_succ, List.getD_cons_zero, List.getD_nil, List.length_cons, List.length_nil, List.map_cons, List.map_nil, List.sum_cons, List.sum_nil, Nat.reduceAdd, Nat.reduceLeDiff, Value.category, Option.toList, true_or, or_true, z_ua, ↓reduceIte, Nat.reduceEqDiff, eq_self, not_true_eq_false, not_false_eq_true, false_implies, true_implies, Classical.not_not, Nat.le_refl, Nat.zero_le, sK71 hS, h1]
      try dsimp only
      exact ⟨fun _ => ke _, fun _ => ke _⟩
    refine zW_ok hj B214_108 108 _ _ _ _ _ b214_108 ?_
    simp only [B214_108, zW, z_wp1, z_ld, z_f0, z_f1, z_f2, z_f3, List.getElem?_cons_zero, List.getElem?_cons_succ, true_and, and_true, Int32.reduceOfInt, z_i10, z_i01, Int32.reduceLT, Int32.reduceLE, Int32.reduceAdd, Int32.reduceSub, z_set, z_set2, z_kil, List.set_cons_zero, List.set_cons_succ, List.take_succ_cons, List.take_zero, List.drop_succ_cons, List.drop_zero, List.reverse_cons, List.reverse_nil, List.nil_append, List.cons_append, List.getD_cons_succ, List.getD_cons_zero, List.getD_nil, List.length_cons, List.length_nil, List.map_cons, List.map_nil, List.sum_cons, List.sum_nil, Nat.reduceAdd, Nat.reduceLeDiff, Value.category, Option.toList, true_or, or_true, z_ua, ↓reduceIte, Nat.reduceEqDiff, eq_self, not_true_eq_false, not_false_eq_true, false_implies, true_implies, Classical.not_not, Nat.le_refl, Nat.zero_le, sK71 hS, sG71_36 hS, sK89 hS, sL89 hS, e2, e3, hy2]
    try dsimp only
    exact ⟨fun hw => fin _ (if_neg hw).symm, fun hw => fin _ (if_pos hw).symm⟩
theorem c214_loop {X : zX} (hS : SS K L G) (hj : X.2.1 = 214) {LL : List (Int32 × Int32)} (h1 : I 71 37 = nI LL.length) (h2 : m_ls2 (I 88) (I 89) LL) (hlen : LL.length ≤ 4096) {mode set w v : Int32} (hQ : ∀ r h', r = some (.int v) ∧ h' = (n, K, L, I, J, G) → X.2.2.2.2.2.2 r h') : ∀ (k steps : Nat) (has asked : Int32) (x8 : Option Value), m_ft (m_wk LL k has).2 LL 0 = none → v = (if w = 0 then (m_wk LL k has).2 else if w = 1 then nI (steps + (m_wk LL k has).1.length) else m_fa w (m_wk LL k has).1 steps asked) → zV X 40 [some (.ref 71), some (.int mode), some (.int set), some (.int w), some (.int has), some (.int (nI steps)), some (.int asked), some (.int 1), x8] [] (n, K, L, I, J, G) 0 0 := by
  have fin : ∀ (steps : Nat) (has asked : Int32) (x8 : Option Value), v = (if w = 0 then has else if w = 1 then nI steps else asked) → zV X 148 [some (.ref 71), some (.int mode), some (.int set), some (.int w), some (.int has), some (.int (nI steps)), some (.int asked), some (.int 0), x8] [] (n, K, L, I, J, G) 0 0 := by
    intro steps has asked x8 hv
    refine zW_ok hj B214_148 148 _ _ _ _ _ b214_148 ?_
    simp only [B214_148, zW, z_wp1, z_ld, z_f0, z_f1, z_f2, z_f3, List.getElem?_cons_zero, List.getElem?_cons_succ, true_and, and_true, Int32.reduceOfInt, z_i10, z_i01, Int32.reduceLT, Int32.reduceLE, Int32.reduceAdd, Int32.reduceSub, z_set, z_set2, z_kil, List.set_cons_zero, List.set_cons_succ, List.take_succ_cons, List.take_zero, List.drop_succ_cons, List.drop_zero, List.reverse_cons, List.reverse_nil, List.nil_append, List.cons_append, List.getD_cons_succ, List.getD_cons_zero, List.getD_nil, List.length_cons, List.length_nil, List.map_cons, List.map_nil, List.sum_cons, List.sum_nil, Nat.reduceAdd, Nat.reduceLeDiff, Value.category, Option.toList, true_or, or_true, z_ua, ↓reduceIte, Nat.reduceEqDiff, eq_self, not_true_eq_false, not_false_eq_true, false_implies, true_implies, Classical.not_not, Nat.le_refl, Nat.zero_le]
    try dsimp only
    refine zW_ok hj B214_40 40 _ _ _ _ _ b214_40 ?_
    simp only [B214_40, zW, z_wp1, z_ld, z_f0, z_f1, z_f2, z_f3, List.getElem?_cons_zero, List.getElem?_cons_succ, true_and, and_true, Int32.reduceOfInt, z_i10, z_i01, Int32.reduceLT, Int32.reduceLE, Int32.reduceAdd, Int32.reduceSub, z_set, z_set2, z_kil, List.set_cons_zero, List.set_cons_succ, List.take_succ_cons, List.take_zero, List.drop_succ_cons, List.drop_zero, List.reverse_cons, List.reverse_nil, List.nil_append, List.cons_append, List.getD_cons_succ, List.getD_cons_zero, List.getD_nil, List.length_cons, List.length_nil, List.map_cons, List.map_nil, List.sum_cons, List.sum_nil, Nat.reduceAdd, Nat.reduceLeDiff, Value.category, Option.toList, true_or, or_true, z_ua, ↓reduceIte, Nat.reduceEqDiff, eq_self, not_true_eq_false, not_false_eq_true, false_implies, true_implies, Classical.not_not, Nat.le_refl, Nat.zero_le]
    try dsimp only
    refine zW_ok hj B214_151 151 _ _ _ _ _ b214_151 ?_
    simp only [B214_151, zW, z_wp1, z_ld, z_f0, z_f1, z_f2, z_f3, List.getElem?_cons_zero, List.getElem?_cons_succ, true_and, and_true, Int32.reduceOfInt, z_i10, z_i01, Int32.reduceLT, Int32.reduceLE, Int32.reduceAdd, Int32.reduceSub, z_set, z_set2, z_kil, List.set_cons_zero, List.set_cons_succ, List.take_succ_cons, List.take_zero, List.drop_succ_cons, List.drop_zero, List.reverse_cons, List.reverse_nil, List.nil_append, List.cons_append, List.getD_cons_succ, List.getD_cons_zero, List.getD_nil, List.length_cons, List.length_nil, List.map_cons, List.map_nil, List.sum_cons, List.sum_nil, Nat.reduceAdd, Nat.reduceLeDiff, Value.category, Option.toList, true_or, or_true, z_ua, ↓reduceIte, Nat.reduceEqDiff, eq_self, not_true_eq_false, not_false_eq_true, false_implies, true_implies, Classical.not_not, Nat.le_refl, Nat.zero_le]
    try dsimp only
    have ret : ∀ z : Int32, z = v → zV X 172 [some (.ref 71), some (.int mode), some (.int set), some (.int w), some (.int has), some (.int (nI steps)), some (.int asked), some (.int 0), x8] [.int z] (n, K, L, I, J, G) 0 0 := by
      intro z hz
      subst hz
      refine zW_ok hj B214_172 172 _ _ _ _ _ b214_172 ?_
      simp only [B214_172, zW, z_wp1, z_ld, z_f0, z_f1, z_f2, z_f3, List.getElem?_cons_zero, List.getElem?_cons_succ, true_and, and_true, Int32.reduceOfInt, z_i10, z_i01, Int32.reduceLT, Int32.reduceLE, Int32.reduceAdd, Int32.reduceSub, z_set, z_set2, z_kil, List.set_cons_zero, List.set_cons_succ, List.take_succ_cons, List.take_zero, List.drop_succ_cons, List.drop_zero, List.reverse_cons, List.reverse_nil, List.nil_append, List.cons_append, List.getD_cons_succ, List.getD_cons_zero, List.getD_nil, List.length_cons, List.length_nil, List.map_cons, List.map_nil, List.sum_cons, List.sum_nil, Nat.reduceAdd, Nat.reduceLeDiff, Value.category, Option.toList, true_or, or_true, z_ua, ↓reduceIte, Nat.reduceEqDiff, eq_self, not_true_eq_false, not_false_eq_true, false_implies, true_implies, Classical.not_not, Nat.le_refl, Nat.zero_le]
      try dsimp only
      exact hQ _ _ ⟨rfl, rfl⟩
    refine ⟨fun h => ?_, fun h => ret _ (by rw [hv, if_pos h])⟩
    refine zW_ok hj B214_160 160 _ _ _ _ _ b214_160 ?_
    simp only [B214_160, zW, z_wp1, z_ld, z_f0, z_f1, z_f2, z_f3, List.getElem?_cons_zero, List.getElem?_cons_succ, true_and, and_true, Int32.reduceOfInt, z_i10, z_i01, Int32.reduceLT, Int32.reduceLE, Int32.reduceAdd, Int32.reduceSub, z_set, z_set2, z_kil, List.set_cons_zero, List.set_cons_succ, List.take_succ_cons, List.take_zero, List.drop_succ_cons, List.drop_zero, List.reverse_cons, List.reverse_nil, List.nil_append, List.cons_append, List.getD_cons_succ, List.getD_cons_zero, List.getD_nil, List.length_cons, List.length_nil, List.map_cons, List.map_nil, List.sum_cons, List.sum_nil, Nat.reduceAdd, Nat.reduceLeDiff, Value.category, Option.toList, true_or, or_true, z_ua, ↓reduceIte, Nat.reduceEqDiff, eq_self, not_true_eq_false, not_false_eq_true, false_implies, true_implies, Classical.not_not, Nat.le_refl, Nat.zero_le]
    try dsimp only
    refine ⟨fun h' => ?_, fun h' => ret _ (by rw [hv, if_neg h, if_pos h'])⟩
    refine zW_ok hj B214_170 170 _ _ _ _ _ b214_170 ?_
    simp only [B214_170, zW, z_wp1, z_ld, z_f0, z_f1, z_f2, z_f3, List.getElem?_cons_zero, List.getElem?_cons_succ, true_and, and_true, Int32.reduceOfInt, z_i10, z_i01, Int32.reduceLT, Int32.reduceLE, Int32.reduceAdd, Int32.reduceSub, z_set, z_set2, z_kil, List.set_cons_zero, List.set_cons_succ, List.take_succ_cons, List.take_zero, List.drop_succ_cons, List.drop_zero, List.reverse_cons, List.reverse_nil, List.nil_append, List.cons_append, List.getD_cons_succ, List.getD_cons_zero, List.getD_nil, List.length_cons, List.length_nil, List.map_cons, List.map_nil, List.sum_cons, List.sum_nil, Nat.reduceAdd, Nat.reduceLeDiff, Value.category, Option.toList, true_or, or_true, z_ua, ↓reduceIte, Nat.reduceEqDiff, eq_self, not_true_eq_false, not_false_eq_true, false_implies, true_implies, Classical.not_not, Nat.le_refl, Nat.zero_le]
    try dsimp only
    exact ret _ (by rw [hv, if_neg h, if_neg h'])
  intro k
  induction k with
  | zero =>
    intro steps has asked x8 hT hv
    simp only [m_wk] at hT hv
    refine zW_ok hj B214_40 40 _ _ _ _ _ b214_40 ?_
    simp only [B214_40, zW, z_wp1, z_ld, z_f0, z_f1, z_f2, z_f3, List.getElem?_cons_zero, List.getElem?_cons_succ, true_and, and_true, Int32.reduceOfInt, z_i10, z_i01, Int32.reduceLT, Int32.reduceLE, Int32.reduceAdd, Int32.reduceSub, z_set, z_set2, z_kil, List.set_cons_zero, List.set_cons_succ, List.take_succ_cons, List.take_zero, List.drop_succ_cons, List.drop_zero, List.reverse_cons, List.reverse_nil, List.nil_append, List.cons_append, List.getD_cons_succ, List.getD_cons_zero, List.getD_nil, List.length_cons, List.length_nil, List.map_cons, List.map_nil, List.sum_cons, List.sum_nil, Nat.reduceAdd, Nat.reduceLeDiff, Value.category, Option.toList, true_or, or_true, z_ua, ↓reduceIte, Nat.reduceEqDiff, eq_self, not_true_eq_false, not_false_eq_true, false_implies, true_implies, Classical.not_not, Nat.le_refl, Nat.zero_le]
    try dsimp only
    refine c214_in hS hj h1 h2 hlen (o := none) (fun _ x => fin steps has asked x ?_) (fun k r e => by cases e) LL 0 rfl (Nat.zero_le _) hT
    rw [hv]
    simp [m_fa]
  | succ k ih =>
    intro steps has asked x8 hT hv
    refine zW_ok hj B214_40 40 _ _ _ _ _ b214_40 ?_
    simp only [B214_40, zW, z_wp1, z_ld, z_f0, z_f1, z_f2, z_f3, List.getElem?_cons_zero, List.getElem?_cons_succ, true_and, and_true, Int32.reduceOfInt, z_i10, z_i01, Int32.reduceLT, Int32.reduceLE, Int32.reduceAdd, Int32.reduceSub, z_set, z_set2, z_kil, List.set_cons_zero, List.set_cons_succ, List.take_succ_cons, List.take_zero, List.drop_succ_cons, List.drop_zero, List.reverse_cons, List.reverse_nil, List.nil_append, List.cons_append, List.getD_cons_succ, List.getD_cons_zero, List.getD_nil, List.length_cons, List.length_nil, List.map_cons, List.map_nil, List.sum_cons, List.sum_nil, Nat.reduceAdd, Nat.reduceLeDiff, Value.category, Option.toList, true_or, or_true, z_ua, ↓reduceIte, Nat.reduceEqDiff, eq_self, not_true_eq_false, not_false_eq_true, false_implies, true_implies, Classical.not_not, Nat.le_refl, Nat.zero_le]
    try dsimp only
    cases ho : m_ft has LL 0 with
    | none =>
      rw [m_wk_n ho] at hv
      refine c214_in hS hj h1 h2 hlen (o := none) (fun _ x => fin steps has asked x ?_) (fun k r e => by cases e) LL 0 rfl (Nat.zero_le _) ho
      rw [hv]
      simp [m_fa]
    | some i =>
      refine c214_in hS hj h1 h2 hlen (o := some i) (fun e => by cases e) (fun k' r e hr x => ?_) LL 0 rfl (Nat.zero_le _) ho
      cases e
      rw [m_wk_s ho] at hT hv
      have e : (LL.getD i (0, 0)).2 = r.2 := by rw [List.getD_eq_getElem?_getD, hr]; rfl
      rw [e] at hT hv
      refine zW_ok hj B214_148 148 _ _ _ _ _ b214_148 ?_
      simp only [B214_148, zW, z_wp1, z_ld, z_f0, z_f1, z_f2, z_f3, List.getElem?_cons_zero, List.getElem?_cons_succ, true_and, and_true, Int32.reduceOfInt, z_i10, z_i01, Int32.reduceLT, Int32.reduceLE, Int32.reduceAdd, Int32.reduceSub, z_set, z_set2, z_kil, List.set_cons_zero, List.set_cons_succ, List.take_succ_cons, List.take_zero, List.drop_succ_cons, List.drop_zero, List.reverse_cons, List.reverse_nil, List.nil_append, List.cons_append, List.getD_cons_succ, List.getD_cons_zero, List.getD_nil, List.length_cons, List.length_nil, List.map_cons, List.map_nil, List.sum_cons, List.sum_nil, Nat.reduceAdd, Nat.reduceLeDiff, Value.category, Option.toList, true_or, or_true, z_ua, ↓reduceIte, Nat.reduceEqDiff, eq_self, not_true_eq_false, not_false_eq_true, false_implies, true_implies, Classical.not_not, Nat.le_refl, Nat.zero_le]
      try dsimp only
      refine ih (steps + 1) _ _ _ hT ?_
      rw [hv]
      simp only [m_fa, List.length_cons]
      rw [show steps + ((m_wk LL k (has ||| r.2)).1.length + 1) = steps + 1 + (m_wk LL k (has ||| r.2)).1.length by omega]
/-- follow -/
theorem c214a (hS : SS K L G) (hst : m_st I c F N tr) {mode set w : Int32} (hmd : m_md mode) (hset : m_isM N set) (hend : m_ft (m_wk (m_rl (mS N) (mC I c F N tr mode) (2 ^ N)) 12 set).2 (m_rl (mS N) (mC I c F N tr mode) (2 ^ N)) 0 = none) : z_Ctr l 5 214 [.ref 71, .int mode, .int set, .int w] (n, K, L, I, J, G) 0 0 (fun r h' => r = some (.int (m_fol (m_rl (mS N) (mC I c F N tr mode) (2 ^ N)) set w)) ∧ ∃ I', h' = (n, K, L, I', J, G) ∧ mF I I') := by
  have hst' := (m_sm.t I).st hst
  obtain ⟨s1, s2, s3, s4, s5, s6, s7⟩ := id hst'
  have hp := z_pow s6
  have d1 : Decidable (m_isM N set) := Classical.propDecidable _
  have d2 : Decidable (m_md mode) := Classical.propDecidable _
  refine z_ctr (by decide) (by decide +kernel) (Nat.le_of_ble_eq_true rfl) (by decide +kernel) (fun X hl hj hd hm hs hsc hQ => ?_)
  show zV X 0 [some (.ref 71), some (.int mode), some (.int set), some (.int w), none, none, none, none, none] [] _ 0 0
  refine zW_ok hj B214_0 0 _ _ _ _ _ b214_0 ?_
  simp only [B214_0, zW, z_wp1, z_ld, z_f0, z_f1, z_f2, z_f3, List.getElem?_cons_zero, List.getElem?_cons_succ, true_and, and_true, Int32.reduceOfInt, z_i10, z_i01, Int32.reduceLT, Int32.reduceLE, Int32.reduceAdd, Int32.reduceSub, z_set, z_set2, z_kil, List.set_cons_zero, List.set_cons_succ, List.take_succ_cons, List.take_zero, List.drop_succ_cons, List.drop_zero, List.reverse_cons, List.reverse_nil, List.nil_append, List.cons_append, List.getD_cons_succ, List.getD_cons_zero, List.getD_nil, List.length_cons, List.length_nil, List.map_cons, List.map_nil, List.sum_cons, List.sum_nil, Nat.reduceAdd, Nat.reduceLeDiff, Value.category, Option.toList, true_or, or_true, z_ua, ↓reduceIte, Nat.reduceEqDiff, eq_self, not_true_eq_false, not_false_eq_true, false_implies, true_implies, Classical.not_not, Nat.le_refl, Nat.zero_le, sK71 hS]
  try dsimp only
  refine z_callD (c199n mode) (by omega) (by omega) (by omega) (Nat.le_of_ble_eq_true rfl) ?_
  try simp only [zW, z_wp1, z_ld, z_f0, z_f1, z_f2, z_f3, List.getElem?_cons_zero, List.getElem?_cons_succ, true_and, and_true, Int32.reduceOfInt, z_i10, z_i01, Int32.reduceLT, Int32.reduceLE, Int32.reduceAdd, Int32.reduceSub, z_set, z_set2, z_kil, List.set_cons_zero, List.set_cons_succ, List.take_succ_cons, List.take_zero, List.drop_succ_cons, List.drop_zero, List.reverse_cons, List.reverse_nil, List.nil_append, List.cons_append, List.getD_cons_succ, List.getD_cons_zero, List.getD_nil, List.length_cons, List.length_nil, List.map_cons, List.map_nil, List.sum_cons, List.sum_nil, Nat.reduceAdd, Nat.reduceLeDiff, Value.category, Option.toList, true_or, or_true, z_ua, ↓reduceIte, Nat.reduceEqDiff, eq_self, not_true_eq_false, not_false_eq_true, false_implies, true_implies, Classical.not_not, Nat.le_refl, Nat.zero_le, sK71 hS, z_b1 hmd]
  try dsimp only
  refine z_callD (c200n hS s5 s6 set) (by omega) (by omega) (by omega) (Nat.le_of_ble_eq_true rfl) ?_
  try simp only [zW, z_wp1, z_ld, z_f0, z_f1, z_f2, z_f3, List.getElem?_cons_zero, List.getElem?_cons_succ, true_and, and_true, Int32.reduceOfInt, z_i10, z_i01, Int32.reduceLT, Int32.reduceLE, Int32.reduceAdd, Int32.reduceSub, z_set, z_set2, z_kil, List.set_cons_zero, List.set_cons_succ, List.take_succ_cons, List.take_zero, List.drop_succ_cons, List.drop_zero, List.reverse_cons, List.reverse_nil, List.nil_append, List.cons_append, List.getD_cons_succ, List.getD_cons_zero, List.getD_nil, List.length_cons, List.length_nil, List.map_cons, List.map_nil, List.sum_cons, List.sum_nil, Nat.reduceAdd, Nat.reduceLeDiff, Value.category, Option.toList, true_or, or_true, z_ua, ↓reduceIte, Nat.reduceEqDiff, eq_self, not_true_eq_false, not_false_eq_true, false_implies, true_implies, Classical.not_not, Nat.le_refl, Nat.zero_le, sK71 hS, z_b1 hset]
  try dsimp only
  refine zW_ok hj B214_23 23 _ _ _ _ _ b214_23 ?_
  simp only [B214_23, zW, z_wp1, z_ld, z_f0, z_f1, z_f2, z_f3, List.getElem?_cons_zero, List.getElem?_cons_succ, true_and, and_true, Int32.reduceOfInt, z_i10, z_i01, Int32.reduceLT, Int32.reduceLE, Int32.reduceAdd, Int32.reduceSub, z_set, z_set2, z_kil, List.set_cons_zero, List.set_cons_succ, List.take_succ_cons, List.take_zero, List.drop_succ_cons, List.drop_zero, List.reverse_cons, List.reverse_nil, List.nil_append, List.cons_append, List.getD_cons_succ, List.getD_cons_zero, List.getD_nil, List.length_cons, List.length_nil, List.map_cons, List.map_nil, List.sum_cons, List.sum_nil, Nat.reduceAdd, Nat.reduceLeDiff, Value.category, Option.toList, true_or, or_true, z_ua, ↓reduceIte, Nat.reduceEqDiff, eq_self, not_true_eq_false, not_false_eq_true, false_implies, true_implies, Classical.not_not, Nat.le_refl, Nat.zero_le, sK71 hS]
  try dsimp only
  refine z_callQ (c211 (I := m_t I) hS hst' mode) (by omega) (by omega) (by omega) (Nat.le_of_ble_eq_true rfl) ?_
  rintro r h' ⟨rfl, I', rfl, ho, h1, h2⟩
  have h1 : I' 71 37 = nI (m_rl (mS N) (mC I c F N tr mode) (2 ^ N)).length := h1
  have h2 : m_ls2 (I' 88) (I' 89) (m_rl (mS N) (mC I c F N tr mode) (2 ^ N)) := h2
  have hlen := m_rl_len (mS N) (mC I c F N tr mode) (2 ^ N)
  generalize m_rl (mS N) (mC I c F N tr mode) (2 ^ N) = LL at h1 h2 hQ hlen hend
  have hF := (mF.t I).tr ho
  simp only [zW, z_wp1, z_ld, z_f0, z_f1, z_f2, z_f3, List.getElem?_cons_zero, List.getElem?_cons_succ, true_and, and_true, Int32.reduceOfInt, z_i10, z_i01, Int32.reduceLT, Int32.reduceLE, Int32.reduceAdd, Int32.reduceSub, z_set, z_set2, z_kil, List.set_cons_zero, List.set_cons_succ, List.take_succ_cons, List.take_zero, List.drop_succ_cons, List.drop_zero, List.reverse_cons, List.reverse_nil, List.nil_append, List.cons_append, List.getD_cons_succ, List.getD_cons_zero, List.getD_nil, List.length_cons, List.length_nil, List.map_cons, List.map_nil, List.sum_cons, List.sum_nil, Nat.reduceAdd, Nat.reduceLeDiff, Value.category, Option.toList, true_or, or_true, z_ua, ↓reduceIte, Nat.reduceEqDiff, eq_self, not_true_eq_false, not_false_eq_true, false_implies, true_implies, Classical.not_not, Nat.le_refl, Nat.zero_le]
  try dsimp only
  refine c214_loop hS hj h1 h2 (by omega) (fun r h' q => hQ _ _ ⟨q.1, I', q.2, hF⟩) 12 0 set (-1) _ hend ?_
  rw [m_fol]
  simp
theorem c214b (hS : SS K L G) (hst : m_st I c F N tr) {set mode w : Int32} (h : ¬ (m_md mode ∧ m_isM N set)) : z_D l 5 214 [.ref 71, .int mode, .int set, .int w] (n, K, L, I, J, G) (some (.int (-1))) (n, K, L, m_t I, J, G) := by
  obtain ⟨s1, s2, s3, s4, s5, s6, s7⟩ := (m_sm.t I).st hst
  have d1 : Decidable (m_isM N set) := Classical.propDecidable _
  have d2 : Decidable (m_md mode) := Classical.propDecidable _
  refine z_ctr (by decide) (by decide +kernel) (Nat.le_of_ble_eq_true rfl) (by decide +kernel) (fun X hl hj hd hm hs hsc hQ => ?_)
  show zV X 0 [some (.ref 71), some (.int mode), some (.int set), some (.int w), none, none, none, none, none] [] _ 0 0
  have no : zV X 21 [some (.ref 71), some (.int mode), some (.int set), some (.int w), none, none, none, none, none] [] (n, K, L, m_t I, J, G) 0 0 := by
    refine zW_ok hj B214_21 21 _ _ _ _ _ b214_21 ?_
    simp only [B214_21, zW, z_wp1, z_ld, z_f0, z_f1, z_f2, z_f3, List.getElem?_cons_zero, List.getElem?_cons_succ, true_and, and_true, Int32.reduceOfInt, z_i10, z_i01, Int32.reduceLT, Int32.reduceLE, Int32.reduceAdd, Int32.reduceSub, z_set, z_set2, z_kil, List.set_cons_zero, List.set_cons_succ, List.take_succ_cons, List.take_zero, List.drop_succ_cons, List.drop_zero, List.reverse_cons, List.reverse_nil, List.nil_append, List.cons_append, List.getD_cons_succ, List.getD_cons_zero, List.getD_nil, List.length_cons, List.length_nil, List.map_cons, List.map_nil, List.sum_cons, List.sum_nil, Nat.reduceAdd, Nat.reduceLeDiff, Value.category, Option.toList, true_or, or_true, z_ua, ↓reduceIte, Nat.reduceEqDiff, eq_self, not_true_eq_false, not_false_eq_true, false_implies, true_implies, Classical.not_not, Nat.le_refl, Nat.zero_le]
    try dsimp only
    exact hQ _ _ ⟨rfl, rfl⟩
  refine zW_ok hj B214_0 0 _ _ _ _ _ b214_0 ?_
  simp only [B214_0, zW, z_wp1, z_ld, z_f0, z_f1, z_f2, z_f3, List.getElem?_cons_zero, List.getElem?_cons_succ, true_and, and_true, Int32.reduceOfInt, z_i10, z_i01, Int32.reduceLT, Int32.reduceLE, Int32.reduceAdd, Int32.reduceSub, z_set, z_set2, z_kil, List.set_cons_zero, List.set_cons_succ, List.take_succ_cons, List.take_zero, List.drop_succ_cons, List.drop_zero, List.reverse_cons, List.reverse_nil, List.nil_append, List.cons_append, List.getD_cons_succ, List.getD_cons_zero, List.getD_nil, List.length_cons, List.length_nil, List.map_cons, List.map_nil, List.sum_cons, List.sum_nil, Nat.reduceAdd, Nat.reduceLeDiff, Value.category, Option.toList, true_or, or_true, z_ua, ↓reduceIte, Nat.reduceEqDiff, eq_self, not_true_eq_false, not_false_eq_true, false_implies, true_implies, Classical.not_not, Nat.le_refl, Nat.zero_le, sK71 hS]
  try dsimp only
  refine z_callD (c199n mode) (by omega) (by omega) (by omega) (Nat.le_of_ble_eq_true rfl) ?_
  try simp only [zW, z_wp1, z_ld, z_f0, z_f1, z_f2, z_f3, List.getElem?_cons_zero, List.getElem?_cons_succ, true_and, and_true, Int32.reduceOfInt, z_i10, z_i01, Int32.reduceLT, Int32.reduceLE, Int32.reduceAdd, Int32.reduceSub, z_set, z_set2, z_kil, List.set_cons_zero, List.set_cons_succ, List.take_succ_cons, List.take_zero, List.drop_succ_cons, List.drop_zero, List.reverse_cons, List.reverse_nil, List.nil_append, List.cons_append, List.getD_cons_succ, List.getD_cons_zero, List.getD_nil, List.length_cons, List.length_nil, List.map_cons, List.map_nil, List.sum_cons, List.sum_nil, Nat.reduceAdd, Nat.reduceLeDiff, Value.category, Option.toList, true_or, or_true, z_ua, ↓reduceIte, Nat.reduceEqDiff, eq_self, not_true_eq_false, not_false_eq_true, false_implies, true_implies, Classical.not_not, Nat.le_refl, Nat.zero_le, sK71 hS, z_b_eq]
  try dsimp only
  refine ⟨fun _ => no, fun h1 => ?_⟩
  refine z_callD (c200n hS s5 s6 set) (by omega) (by omega) (by omega) (Nat.le_of_ble_eq_true rfl) ?_
  try simp only [zW, z_wp1, z_ld, z_f0, z_f1, z_f2, z_f3, List.getElem?_cons_zero, List.getElem?_cons_succ, true_and, and_true, Int32.reduceOfInt, z_i10, z_i01, Int32.reduceLT, Int32.reduceLE, Int32.reduceAdd, Int32.reduceSub, z_set, z_set2, z_kil, List.set_cons_zero, List.set_cons_succ, List.take_succ_cons, List.take_zero, List.drop_succ_cons, List.drop_zero, List.reverse_cons, List.reverse_nil, List.nil_append, List.cons_append, List.getD_cons_succ, List.getD_cons_zero, List.getD_nil, List.length_cons, List.length_nil, List.map_cons, List.map_nil, List.sum_cons, List.sum_nil, Nat.reduceAdd, Nat.reduceLeDiff, Value.category, Option.toList, true_or, or_true, z_ua, ↓reduceIte, Nat.reduceEqDiff, eq_self, not_true_eq_false, not_false_eq_true, false_implies, true_implies, Classical.not_not, Nat.le_refl, Nat.zero_le, sK71 hS, z_b_eq]
  try dsimp only
  exact ⟨fun h2 => absurd ⟨h1, h2⟩ h, fun _ => no⟩
end FOL
