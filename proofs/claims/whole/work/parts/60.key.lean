/-! Keys: what they are, and the model's -/
abbrev k_ok (ys mb : Nat → Int32) (s : Int32) (i : Nat) : Prop := s &&& mb i = 0 ∧ ¬ s &&& ys i = 0 ∧ ¬ s &&& (ys i ^^^ -1) = 0
def k_v1 (ys co : Nat → Int32) (g : Nat → Int32 × Int32 × Int32) (s : Int32) (i : Nat) : Int32 := co i + (if (g (s &&& (ys i ^^^ -1)).toNatClampNeg).1 < (g (s &&& ys i).toNatClampNeg).1 then (g (s &&& ys i).toNatClampNeg).1 else (g (s &&& (ys i ^^^ -1)).toNatClampNeg).1)
def k_st (ys mb co : Nat → Int32) (g : Nat → Int32 × Int32 × Int32) (s : Int32) : Nat → Int32 × Int32 × Int32
  | 0 => (0, -1, 1)
  | i + 1 => if k_ok ys mb s i ∧ ((k_st ys mb co g s i).2.1 = -1 ∨ k_v1 ys co g s i < (k_st ys mb co g s i).1) then (k_v1 ys co g s i, nI i, (g (s &&& ys i).toNatClampNeg).2.2 + (g (s &&& (ys i ^^^ -1)).toNatClampNeg).2.2) else k_st ys mb co g s i
def k_f (ys mb co : Nat → Int32) (N : Nat) : Nat → Nat → Int32 × Int32 × Int32
  | 0, _ => (0, -1, 1)
  | k + 1, s => k_st ys mb co (k_f ys mb co N k) (nI s) N
def k_v (ys mb co : Nat → Int32) (N s : Nat) : Int32 × Int32 × Int32 := k_f ys mb co N (s + 1) s
/-- both parts of a set -/
theorem k_part {ys mb : Nat → Int32} {s i : Nat} (hs : s < 2 ^ 16) (h : k_ok ys mb (nI s) i) : ∃ a b, nI s &&& ys i = nI a ∧ nI s &&& (ys i ^^^ -1) = nI b ∧ a < s ∧ b < s ∧ a ≠ 0 ∧ b ≠ 0 ∧ (∀ j, zb (nI a) j = (zb (nI s) j && zb (ys i) j)) ∧ ∀ j, zb (nI b) j = (zb (nI s) j && !zb (ys i) j) := by
  obtain ⟨h1, h2, h3⟩ := h
  have nb : ∀ j, zb (nI s &&& (ys i ^^^ -1)) j = (zb (nI s) j && !zb (ys i) j) := fun j => by
    rw [z_xn, zb_and, zb_not]
    rcases Nat.lt_or_ge j 32 with q | q
    · simp [q]
    · rw [zb_ge q]; simp
  have na : ∀ j, zb (nI s &&& ys i) j = (zb (nI s) j && zb (ys i) j) := fun j => zb_and _ _ _
  obtain ⟨a, ha, ea⟩ := zb_toN (s := nI s &&& ys i) (N := 16) (by omega) (fun j hj => by rw [na, zb_of (by omega) hs hj]; rfl)
  obtain ⟨b, hb, eb⟩ := zb_toN (s := nI s &&& (ys i ^^^ -1)) (N := 16) (by omega) (fun j hj => by rw [nb, zb_of (by omega) hs hj]; rfl)
  rw [ea] at na h2
  rw [eb] at nb h3
  have la : a ≤ s := z_sle (fun j hj => by
    rw [← zb_nI (k := a) (by omega), na] at hj
    rw [← zb_nI (k := s) (by omega)]
    simp at hj
    exact hj.1)
  have lb : b ≤ s := z_sle (fun j hj => by
    rw [← zb_nI (k := b) (by omega), nb] at hj
    rw [← zb_nI (k := s) (by omega)]
    simp at hj
    exact hj.1)
  have a0 : a ≠ 0 := fun e => h2 (by rw [e]; exact nI_0)
  have b0 : b ≠ 0 := fun e => h3 (by rw [e]; exact nI_0)
  refine ⟨a, b, ea, eb, ?_, ?_, a0, b0, na, nb⟩
  · refine Nat.lt_of_le_of_ne la (fun e => h3 (zb_ext (fun j _ => ?_)))
    rw [nb, zb_0]
    have := na j
    rw [e] at this
    cases hz : zb (nI s) j <;> simp_all
  · refine Nat.lt_of_le_of_ne lb (fun e => h2 (zb_ext (fun j _ => ?_)))
    rw [na, zb_0]
    have := nb j
    rw [e] at this
    cases hz : zb (nI s) j <;> simp_all
theorem k_st_congr {ys mb co : Nat → Int32} {g g' : Nat → Int32 × Int32 × Int32} {s : Nat} (hs : s < 2 ^ 16) (h : ∀ t, t < s → t ≠ 0 → g t = g' t) : ∀ N, k_st ys mb co g (nI s) N = k_st ys mb co g' (nI s) N
  | 0 => rfl
  | i + 1 => by
    have ih := k_st_congr (ys := ys) (mb := mb) (co := co) hs h i
    simp only [k_st, ih]
    by_cases hk : k_ok ys mb (nI s) i
    · obtain ⟨a, b, ea, eb, ha, hb, ha0, hb0, _, _⟩ := k_part hs hk
      have ga : g (nI s &&& ys i).toNatClampNeg = g' (nI s &&& ys i).toNatClampNeg := by rw [ea, nI_clamp (by omega)]; exact h a ha ha0
      have gb : g (nI s &&& (ys i ^^^ -1)).toNatClampNeg = g' (nI s &&& (ys i ^^^ -1)).toNatClampNeg := by rw [eb, nI_clamp (by omega)]; exact h b hb hb0
      have gv : k_v1 ys co g (nI s) i = k_v1 ys co g' (nI s) i := by unfold k_v1; rw [ga, gb]
      rw [ga, gb, gv]
    · rw [if_neg (fun q => hk q.1), if_neg (fun q => hk q.1)]
theorem k_f_st (ys mb co : Nat → Int32) (N : Nat) : ∀ s, s < 2 ^ 16 → ∀ k, s < k → k_f ys mb co N k s = k_v ys mb co N s := by
  intro s
  induction s using Nat.strongRecOn with
  | ind s ih =>
    intro hs k hk
    obtain ⟨k', rfl⟩ : ∃ k', k = k' + 1 := ⟨k - 1, by omega⟩
    rw [k_v, k_f, k_f]
    exact k_st_congr hs (fun t ht _ => by rw [ih t ht (by omega) k' (by omega), ih t ht (by omega) s (by omega)]) N
theorem k_v_eq (ys mb co : Nat → Int32) (N : Nat) {s : Nat} (hs : s < 2 ^ 16) : k_v ys mb co N s = k_st ys mb co (k_v ys mb co N) (nI s) N := by
  rw [k_v, k_f]
  exact k_st_congr hs (fun t ht _ => k_f_st ys mb co N t (by omega) s ht) N
/-- only the splits are another -/
def m_off8 (I I' : Nat → Nat → Int32) : Prop := ∀ q, q ≠ 84 → q ≠ 85 → q ≠ 101 → q ≠ 102 → I' q = I q
theorem m_off8.sm {I I' : Nat → Nat → Int32} (h : m_off8 I I') : m_sm I I' := ⟨by rw [h 71 (by decide) (by decide) (by decide) (by decide)], by rw [h 71 (by decide) (by decide) (by decide) (by decide)], by rw [h 71 (by decide) (by decide) (by decide) (by decide)], fun q a b => h q (by omega) (by omega) (by omega) (by omega), fun q a b => h q (by omega) (by omega) (by omega) (by omega)⟩
section KEY
variable {l : Launch} {n : Nat} {K L : Nat → Nat} {I : Nat → Nat → Int32} {J : Nat → Nat → Int64} {G : Nat → Nat → Value} {c F N : Nat} {tr : Nat → (Int32 → Int32) → Int32}
abbrev mTv (I : Nat → Nat → Int32) (c : Nat) (tr : Nat → (Int32 → Int32) → Int32) (i : Nat) (f : Int32) : Int32 := mT I c tr (I 71 8) (I 71 9) i f
theorem c236_in {X : zX} (hS : SS K L G) (hj : X.2.1 = 236) (hd : X.2.2.1 = 3) (hm : X.2.2.2.1 = 0) (hs : X.2.2.2.2.1 = 0) (hst : m_st I c F N tr) {i : Nat} (hi : i < N) {I0 : Nat → Nat → Int32} (kk : ∀ I' x, m_off8 I I' → (∀ g, g ≠ i → I' 101 g = I0 101 g ∧ I' 102 g = I0 102 g) → I' 101 i = m_spl (mTv I c tr i) 1 F → I' 102 i = m_spl (mTv I c tr i) 2 F → zV X 97 [some (.ref 71), some (.int (nI i)), some (.int (nI F)), x] [] (n, K, L, I', J, G) 0 0) : ∀ (k f : Nat) (I' : Nat → Nat → Int32) (x : Option Value), f + k = F → m_off8 I I' → (∀ g, g ≠ i → I' 101 g = I0 101 g ∧ I' 102 g = I0 102 g) → I' 101 i = m_spl (mTv I c tr i) 1 f → I' 102 i = m_spl (mTv I c tr i) 2 f → zV X 26 [some (.ref 71), some (.int (nI i)), some (.int (nI f)), x] [] (n, K, L, I', J, G) 0 0
  | 0, f, I', x, hk, ho, h0, h1, h2 => by
    obtain ⟨s1, s2, s3, s4, s5, s6, s7⟩ := ho.sm.st hst
    have e : f = F := by omega
    subst e
    refine zW_ok hj B236_26 26 _ _ _ _ _ b236_26 ?_
    simp only [B236_26, zW, z_wp1, z_ld, z_f0, z_f1, z_f2, z_f3, List.getElem?_cons_zero, List.getElem?_cons_succ, true_and, and_true, Int32.reduceOfInt, z_i10, z_i01, Int32.reduceLT, Int32.reduceLE, Int32.reduceAdd, Int32.reduceSub, z_set, z_set2, z_kil, List.set_cons_zero, List.set_cons_succ, List.take_succ_cons, List.take_zero, List.drop_succ_cons, List.drop_zero, List.reverse_cons, List.reverse_nil, List.nil_append, List.cons_append, List.getD_cons_succ, List.getD_cons_zero, List.getD_nil, List.length_cons, List.length_nil, List.map_cons, List.map_nil, List.sum_cons, List.sum_nil, Nat.reduceAdd, Nat.reduceLeDiff, Value.category, Option.toList, true_or, or_true, z_ua, ↓reduceIte, Nat.reduceEqDiff, eq_self, not_true_eq_false, not_false_eq_true, false_implies, true_implies, Classical.not_not, Nat.le_refl, Nat.zero_le, sK71 hS, s3]
    try dsimp only
    refine ⟨fun _ => kk I' x ho h0 h1 h2, fun hc => absurd (nI_le (Nat.le_refl _) (by omega)) hc⟩
  | k + 1, f, I', x, hk, ho, h0, h1, h2 => by
    have hst' := ho.sm.st hst
    obtain ⟨s1, s2, s3, s4, s5, s6, s7⟩ := id hst'
    have e1 : (nI i).toNatClampNeg = i := nI_clamp (by omega)
    have v1 : vp_in (nI i) 12 := vp_in_nI (by omega) (by omega)
    have e71 : I' 71 = I 71 := ho 71 (by decide) (by decide) (by decide) (by decide)
    refine zW_ok hj B236_26 26 _ _ _ _ _ b236_26 ?_
    simp only [B236_26, zW, z_wp1, z_ld, z_f0, z_f1, z_f2, z_f3, List.getElem?_cons_zero, List.getElem?_cons_succ, true_and, and_true, Int32.reduceOfInt, z_i10, z_i01, Int32.reduceLT, Int32.reduceLE, Int32.reduceAdd, Int32.reduceSub, z_set, z_set2, z_kil, List.set_cons_zero, List.set_cons_succ, List.take_succ_cons, List.take_zero, List.drop_succ_cons, List.drop_zero, List.reverse_cons, List.reverse_nil, List.nil_append, List.cons_append, List.getD_cons_succ, List.getD_cons_zero, List.getD_nil, List.length_cons, List.length_nil, List.map_cons, List.map_nil, List.sum_cons, List.sum_nil, Nat.reduceAdd, Nat.reduceLeDiff, Value.category, Option.toList, true_or, or_true, z_ua, ↓reduceIte, Nat.reduceEqDiff, eq_self, not_true_eq_false, not_false_eq_true, false_implies, true_implies, Classical.not_not, Nat.le_refl, Nat.zero_le, sK71 hS, s3]
    try dsimp only
    refine ⟨fun hc => absurd hc (nI_ge (by omega) (by omega)), fun _ => ?_⟩
    refine z_callQ (c196s (I := I') hS hst' hi (nI f) _ _) (by omega) (by omega) (by omega) (Nat.le_of_ble_eq_true rfl) ?_
    rintro r h' ⟨rfl, I2, rfl, ho2⟩
    have eT : mT I' c tr (I' 71 8) (I' 71 9) i (nI f) = mTv I c tr i (nI f) := by
      unfold mTv mT
      rw [e71]
      congr 1
      funext m
      exact ho.sm.kn c _ _ _ _
    have g1 : I2 101 i = m_spl (mTv I c tr i) 1 f := by rw [ho2 101 (by decide) (by decide)]; exact h1
    have g2 : I2 102 i = m_spl (mTv I c tr i) 2 f := by rw [ho2 102 (by decide) (by decide)]; exact h2
    simp only [zW, z_wp1, z_ld, z_f0, z_f1, z_f2, z_f3, List.getElem?_cons_zero, List.getElem?_cons_succ, true_and, and_true, Int32.reduceOfInt, z_i10, z_i01, Int32.reduceLT, Int32.reduceLE, Int32.reduceAdd, Int32.reduceSub, z_set, z_set2, z_kil, List.set_cons_zero, List.set_cons_succ, List.take_succ_cons, List.take_zero, List.drop_succ_cons, List.drop_zero, List.reverse_cons, List.reverse_nil, List.nil_append, List.cons_append, List.getD_cons_succ, List.getD_cons_zero, List.getD_nil, List.length_cons, List.length_nil, List.map_cons, List.map_nil, List.sum_cons, List.sum_nil, Nat.reduceAdd, Nat.reduceLeDiff, Value.category, Option.toList, true_or, or_true, z_ua, ↓reduceIte, Nat.reduceEqDiff, eq_self, not_true_eq_false, not_false_eq_true, false_implies, true_implies, Classical.not_not, Nat.le_refl, Nat.zero_le, sK71 hS, sG71_57 hS, sK101 hS, sL101 hS, e1, v1, g1]
    try dsimp only
    rw [eT]
    have fin : ∀ I3, (∀ q, q ≠ 101 → q ≠ 102 → I3 q = I2 q) → (∀ g, g ≠ i → I3 101 g = I2 101 g ∧ I3 102 g = I2 102 g) → I3 101 i = m_spl (mTv I c tr i) 1 (f + 1) → I3 102 i = m_spl (mTv I c tr i) 2 (f + 1) → zV X 91 [some (.ref 71), some (.int (nI i)), some (.int (nI f)), some (.int (mTv I c tr i (nI f)))] [] (n, K, L, I3, J, G) 0 0 := by
      intro I3 a1 a2 a3 a4
      refine zW_ok hj B236_91 91 _ _ _ _ _ b236_91 ?_
      simp only [B236_91, zW, z_wp1, z_ld, z_f0, z_f1, z_f2, z_f3, List.getElem?_cons_zero, List.getElem?_cons_succ, true_and, and_true, Int32.reduceOfInt, z_i10, z_i01, Int32.reduceLT, Int32.reduceLE, Int32.reduceAdd, Int32.reduceSub, z_set, z_set2, z_kil, List.set_cons_zero, List.set_cons_succ, List.take_succ_cons, List.take_zero, List.drop_succ_cons, List.drop_zero, List.reverse_cons, List.reverse_nil, List.nil_append, List.cons_append, List.getD_cons_succ, List.getD_cons_zero, List.getD_nil, List.length_cons, List.length_nil, List.map_cons, List.map_nil, List.sum_cons, List.sum_nil, Nat.reduceAdd, Nat.reduceLeDiff, Value.category, Option.toList, true_or, or_true, z_ua, ↓reduceIte, Nat.reduceEqDiff, eq_self, not_true_eq_false, not_false_eq_true, false_implies, true_implies, Classical.not_not, Nat.le_refl, Nat.zero_le, nI_1]
      try dsimp only
      refine c236_in hS hj hd hm hs hst hi kk k (f + 1) I3 _ (by omega) (fun q b1 b2 b3 b4 => ?_) (fun g hg => ?_) a3 a4
      · rw [a1 q b3 b4, ho2 q b1 b2]; exact ho q b1 b2 b3 b4
      · rw [(a2 g hg).1, (a2 g hg).2, ho2 101 (by decide) (by decide), ho2 102 (by decide) (by decide)]
        exact h0 g hg
    have two : ∀ y, y = m_spl (mTv I c tr i) 1 (f + 1) → zV X 70 [some (.ref 71), some (.int (nI i)), some (.int (nI f)), some (.int (mTv I c tr i (nI f)))] [] (n, K, L, z_u I2 101 i y, J, G) 0 0 := by
      intro y hy
      refine zW_ok hj B236_70 70 _ _ _ _ _ b236_70 ?_
      simp only [B236_70, zW, z_wp1, z_ld, z_f0, z_f1, z_f2, z_f3, List.getElem?_cons_zero, List.getElem?_cons_succ, true_and, and_true, Int32.reduceOfInt, z_i10, z_i01, Int32.reduceLT, Int32.reduceLE, Int32.reduceAdd, Int32.reduceSub, z_set, z_set2, z_kil, List.set_cons_zero, List.set_cons_succ, List.take_succ_cons, List.take_zero, List.drop_succ_cons, List.drop_zero, List.reverse_cons, List.reverse_nil, List.nil_append, List.cons_append, List.getD_cons_succ, List.getD_cons_zero, List.getD_nil, List.length_cons, List.length_nil, List.map_cons, List.map_nil, List.sum_cons, List.sum_nil, Nat.reduceAdd, Nat.reduceLeDiff, Value.category, Option.toList, true_or, or_true, z_ua, ↓reduceIte, Nat.reduceEqDiff, eq_self, not_true_eq_false, not_false_eq_true, false_implies, true_implies, Classical.not_not, Nat.le_refl, Nat.zero_le, sK71 hS, sG71_58 hS, sK102 hS, sL102 hS, e1, v1, g2]
      try dsimp only
      refine ⟨fun h => fin _ (fun q a b => by rw [z_u_ne a]) (fun g hg => ⟨by rw [z_u_at, if_neg hg], by rw [z_u_ne (by decide)]⟩) (by rw [z_u_at, if_pos rfl]; exact hy) ?_, fun h => fin _ (fun q a b => by rw [z_u_ne b, z_u_ne a]) (fun g hg => ⟨by rw [z_u_ne (by decide), z_u_at, if_neg hg], by rw [z_u_at, if_neg hg, z_u_ne (by decide)]⟩) (by rw [z_u_ne (by decide), z_u_at, if_pos rfl]; exact hy) ?_⟩
      · rw [z_u_ne (by decide), g2, m_spl, if_neg h]
      · rw [z_u_at, if_pos rfl, m_spl, if_pos h]
    refine ⟨fun h => ?_, fun h => two _ (by rw [m_spl, if_pos h])⟩
    have e3 : I2 = z_u I2 101 i (m_spl (mTv I c tr i) 1 f) := by
      funext q k
      by_cases a : q = 101
      · subst a
        rw [z_u_at]
        by_cases b : k = i
        · rw [if_pos b, b]; exact g1
        · rw [if_neg b]
      · rw [z_u_ne a]
    rw [e3]
    exact two _ (by rw [m_spl, if_neg h])
theorem c236_out {X : zX} (hS : SS K L G) (hj : X.2.1 = 236) (hd : X.2.2.1 = 3) (hm : X.2.2.2.1 = 0) (hs : X.2.2.2.2.1 = 0) (hst : m_st I c F N tr) (hQ : ∀ r h', (r = none ∧ ∃ I', h' = (n, K, L, I', J, G) ∧ m_off8 I I' ∧ ∀ i, i < N → I' 101 i = m_spl (mTv I c tr i) 1 F ∧ I' 102 i = m_spl (mTv I c tr i) 2 F) → X.2.2.2.2.2.2 r h') : ∀ (k i : Nat) (I' : Nat → Nat → Int32) (x y : Option Value), i + k = N → m_off8 I I' → (∀ g, g < i → I' 101 g = m_spl (mTv I c tr g) 1 F ∧ I' 102 g = m_spl (mTv I c tr g) 2 F) → zV X 2 [some (.ref 71), some (.int (nI i)), x, y] [] (n, K, L, I', J, G) 0 0
  | 0, i, I', x, y, hk, ho, h1 => by
    obtain ⟨s1, s2, s3, s4, s5, s6, s7⟩ := ho.sm.st hst
    have e : i = N := by omega
    subst e
    refine zW_ok hj B236_2 2 _ _ _ _ _ b236_2 ?_
    simp only [B236_2, zW, z_wp1, z_ld, z_f0, z_f1, z_f2, z_f3, List.getElem?_cons_zero, List.getElem?_cons_succ, true_and, and_true, Int32.reduceOfInt, z_i10, z_i01, Int32.reduceLT, Int32.reduceLE, Int32.reduceAdd, Int32.reduceSub, z_set, z_set2, z_kil, List.set_cons_zero, List.set_cons_succ, List.take_succ_cons, List.take_zero, List.drop_succ_cons, List.drop_zero, List.reverse_cons, List.reverse_nil, List.nil_append, List.cons_append, List.getD_cons_succ, List.getD_cons_zero, List.getD_nil, List.length_cons, List.length_nil, List.map_cons, List.map_nil, List.sum_cons, List.sum_nil, Nat.reduceAdd, Nat.reduceLeDiff, Value.category, Option.toList, true_or, or_true, z_ua, ↓reduceIte, Nat.reduceEqDiff, eq_self, not_true_eq_false, not_false_eq_true, false_implies, true_implies, Classical.not_not, Nat.le_refl, Nat.zero_le, sK71 hS, s5]
    try dsimp only
    refine ⟨fun _ => ?_, fun hc => absurd (nI_le (Nat.le_refl _) (by omega)) hc⟩
    refine zW_ok hj B236_103 103 _ _ _ _ _ b236_103 ?_
    simp only [B236_103, zW, z_wp1, z_ld, z_f0, z_f1, z_f2, z_f3, List.getElem?_cons_zero, List.getElem?_cons_succ, true_and, and_true, Int32.reduceOfInt, z_i10, z_i01, Int32.reduceLT, Int32.reduceLE, Int32.reduceAdd, Int32.reduceSub, z_set, z_set2, z_kil, List.set_cons_zero, List.set_cons_succ, List.take_succ_cons, List.take_zero, List.drop_succ_cons, List.drop_zero, List.reverse_cons, List.reverse_nil, List.nil_append, List.cons_append, List.getD_cons_succ, List.getD_cons_zero, List.getD_nil, List.length_cons, List.length_nil, List.map_cons, List.map_nil, List.sum_cons, List.sum_nil, Nat.reduceAdd, Nat.reduceLeDiff, Value.category, Option.toList, true_or, or_true, z_ua, ↓reduceIte, Nat.reduceEqDiff, eq_self, not_true_eq_false, not_false_eq_true, false_implies, true_implies, Classical.not_not, Nat.le_refl, Nat.zero_le]
    try dsimp only
    exact hQ _ _ ⟨rfl, I', rfl, ho, h1⟩
  | k + 1, i, I', x, y, hk, ho, h1 => by
    obtain ⟨s1, s2, s3, s4, s5, s6, s7⟩ := ho.sm.st hst
    have e1 : (nI i).toNatClampNeg = i := nI_clamp (by omega)
    have v1 : vp_in (nI i) 12 := vp_in_nI (by omega) (by omega)
    refine zW_ok hj B236_2 2 _ _ _ _ _ b236_2 ?_
    simp only [B236_2, zW, z_wp1, z_ld, z_f0, z_f1, z_f2, z_f3, List.getElem?_cons_zero, List.getElem?_cons_succ, true_and, and_true, Int32.reduceOfInt, z_i10, z_i01, Int32.reduceLT, Int32.reduceLE, Int32.reduceAdd, Int32.reduceSub, z_set, z_set2, z_kil, List.set_cons_zero, List.set_cons_succ, List.take_succ_cons, List.take_zero, List.drop_succ_cons, List.drop_zero, List.reverse_cons, List.reverse_nil, List.nil_append, List.cons_append, List.getD_cons_succ, List.getD_cons_zero, List.getD_nil, List.length_cons, List.length_nil, List.map_cons, List.map_nil, List.sum_cons, List.sum_nil, Nat.reduceAdd, Nat.reduceLeDiff, Value.category, Option.toList, true_or, or_true, z_ua, ↓reduceIte, Nat.reduceEqDiff, eq_self, not_true_eq_false, not_false_eq_true, false_implies, true_implies, Classical.not_not, Nat.le_refl, Nat.zero_le, sK71 hS, s5, sG71_57 hS, sK101 hS, sL101 hS, sG71_58 hS, sK102 hS, sL102 hS, e1, v1]
    try dsimp only
    refine ⟨fun hc => absurd hc (nI_ge (by omega) (by omega)), fun _ => ?_⟩
    refine (c236_in (I0 := I') hS hj hd hm hs hst (show i < N by omega) (fun I2 x a1 a2 a3 a4 => ?_) F 0 (z_u (z_u I' 101 i 0) 102 i 0) none (by omega) (fun q b1 b2 b3 b4 => by rw [z_u_ne b4, z_u_ne b3]; exact ho q b1 b2 b3 b4) (fun g hg => ⟨by rw [z_u_ne (by decide), z_u_at, if_neg hg], by rw [z_u_at, if_neg hg, z_u_ne (by decide)]⟩) (by rw [z_u_ne (by decide), z_u_at, if_pos rfl]; rfl) (by rw [z_u_at, if_pos rfl]; rfl)).weak (by simp only [z_le, nI_0]; simp)
    refine zW_ok hj B236_97 97 _ _ _ _ _ b236_97 ?_
    simp only [B236_97, zW, z_wp1, z_ld, z_f0, z_f1, z_f2, z_f3, List.getElem?_cons_zero, List.getElem?_cons_succ, true_and, and_true, Int32.reduceOfInt, z_i10, z_i01, Int32.reduceLT, Int32.reduceLE, Int32.reduceAdd, Int32.reduceSub, z_set, z_set2, z_kil, List.set_cons_zero, List.set_cons_succ, List.take_succ_cons, List.take_zero, List.drop_succ_cons, List.drop_zero, List.reverse_cons, List.reverse_nil, List.nil_append, List.cons_append, List.getD_cons_succ, List.getD_cons_zero, List.getD_nil, List.length_cons, List.length_nil, List.map_cons, List.map_nil, List.sum_cons, List.sum_nil, Nat.reduceAdd, Nat.reduceLeDiff, Value.category, Option.toList, true_or, or_true, z_ua, ↓reduceIte, Nat.reduceEqDiff, eq_self, not_true_eq_false, not_false_eq_true, false_implies, true_implies, Classical.not_not, Nat.le_refl, Nat.zero_le, nI_1]
    try dsimp only
    refine c236_out hS hj hd hm hs hst hQ k (i + 1) I2 _ _ (by omega) a1 (fun g hg => ?_)
    by_cases e : g = i
    · rw [e]; exact ⟨a3, a4⟩
    · rw [(a2 g e).1, (a2 g e).2]; exact h1 g (by omega)
theorem c236 (hS : SS K L G) (hst : m_st I c F N tr) : z_Ctr l 3 236 [.ref 71] (n, K, L, I, J, G) 0 0 (fun r h' => r = none ∧ ∃ I', h' = (n, K, L, I', J, G) ∧ m_off8 I I' ∧ ∀ i, i < N → I' 101 i = m_spl (mTv I c tr i) 1 F ∧ I' 102 i = m_spl (mTv I c tr i) 2 F) := by
  refine z_ctr (by decide) (by decide +kernel) (Nat.le_of_ble_eq_true rfl) (by decide +kernel) (fun X hl hj hd hm hs hsc hQ => ?_)
  show zV X 0 [some (.ref 71), none, none, none] [] _ 0 0
  refine zW_ok hj B236_0 0 _ _ _ _ _ b236_0 ?_
  simp only [B236_0, zW, z_wp1, z_ld, z_f0, z_f1, z_f2, z_f3, List.getElem?_cons_zero, List.getElem?_cons_succ, true_and, and_true, Int32.reduceOfInt, z_i10, z_i01, Int32.reduceLT, Int32.reduceLE, Int32.reduceAdd, Int32.reduceSub, z_set, z_set2, z_kil, List.set_cons_zero, List.set_cons_succ, List.take_succ_cons, List.take_zero, List.drop_succ_cons, List.drop_zero, List.reverse_cons, List.reverse_nil, List.nil_append, List.cons_append, List.getD_cons_succ, List.getD_cons_zero, List.getD_nil, List.length_cons, List.length_nil, List.map_cons, List.map_nil, List.sum_cons, List.sum_nil, Nat.reduceAdd, Nat.reduceLeDiff, Value.category, Option.toList, true_or, or_true, z_ua, ↓reduceIte, Nat.reduceEqDiff, eq_self, not_true_eq_false, not_false_eq_true, false_implies, true_implies, Classical.not_not, Nat.le_refl, Nat.zero_le]
  try dsimp only
  exact c236_out hS hj hd hm hs hst hQ N 0 I none none (by omega) (fun _ _ _ _ _ => rfl) (fun g hg => by omega)
end KEY
